/-! ===== BEGIN words of one list among another's, by their places ===== -/
theorem goodIn_r {big : List Cond} (ws : List Cond) (ps : List Nat) (hp : ws = ps.filterMap (fun i => big[i]?)) (h : ws.all goodWord = true) : GoodIn big ws := by
  intro w hw
  have h1 := List.all_eq_true.mp h w hw
  rw [hp] at hw
  obtain ⟨i, -, hi⟩ := List.mem_filterMap.mp hw
  have hm : w ∈ big := by first | exact List.mem_of_getElem? hi | exact List.getElem?_mem hi
  exact ⟨hm, good_of_word h1⟩
theorem goodIn_app {big a b : List Cond} (ha : GoodIn big a) (hb : GoodIn big b) : GoodIn big (a ++ b) := fun w h => (List.mem_append.mp h).elim (ha w) (hb w)
theorem goodIn_ca {big a b : List Cond} {c : Cond} (ha : GoodIn big (c :: a)) (hb : GoodIn big b) : GoodIn big (c :: (a ++ b)) := fun w h => (List.mem_cons.mp h).elim (fun e => ha w (List.mem_cons.mpr (Or.inl e))) (fun h => (List.mem_append.mp h).elim (fun h => ha w (List.mem_cons.mpr (Or.inr h))) (hb w))
theorem goodIn_sub {big ws : List Cond} (hm : ∀ w ∈ ws, w ∈ big) (h : ws.all goodWord = true) : GoodIn big ws := fun w hw => ⟨hm w hw, good_of_word (List.all_eq_true.mp h w hw)⟩
/-! ===== END ===== -/

/-! ===== BEGIN printed: names, fields, word lists, decode rows ===== -/
def RX0 : String := "DecimalRegisters$Decimal"
def TX0 : u_T := fun k => match k with
  | 0 => ("DecimalRegisters$Decimal", "digits", "LDecimalRegisters$Natural;", true)
  | 1 => ("DecimalRegisters$Decimal", "minus", "Z", false)
  | _ => ("DecimalRegisters$Decimal", "scale", "I", false)
def tyX0 : Nat → FieldType := fun k => match k with
  | 0 => .object "DecimalRegisters$Natural"
  | 1 => .boolean
  | _ => .int
abbrev wsX00 : List Cond := u_ws RX0 TX0 3
theorem nmX0 : ∀ a, a < 3 → ∀ b, b < 3 → a ≠ b → (TX0 a).2.1 ≠ (TX0 b).2.1 := by decide +kernel
theorem tyX0_ok : ∀ k, k < 3 → parseFieldDescriptor (TX0 k).2.2.1 = some (tyX0 k) := by decide +kernel
abbrev cX0_init : ByteArray := prog_2_method_1_code
def yX0_init : MethodName := ⟨RX0, "<init>", "()V"⟩
abbrev cX0_become : ByteArray := prog_2_method_2_code
def yX0_become : MethodName := ⟨RX0, "become", "(LDecimalRegisters$Decimal;)V"⟩
abbrev cX0_take : ByteArray := prog_2_method_3_code
def yX0_take : MethodName := ⟨RX0, "take", "(LDecimalRegisters$Natural;ZI)V"⟩
abbrev cX0_sign : ByteArray := prog_2_method_4_code
def yX0_sign : MethodName := ⟨RX0, "sign", "()I"⟩
def RX1 : String := "DecimalRegisters$Natural"
def TX1 : u_T := fun k => match k with
  | 0 => ("DecimalRegisters$Natural", "limbs", "[J", true)
  | _ => ("DecimalRegisters$Natural", "size", "I", false)
def tyX1 : Nat → FieldType := fun k => match k with
  | 0 => .array .long
  | _ => .int
abbrev wsX10 : List Cond := u_ws RX1 TX1 2
theorem nmX1 : ∀ a, a < 2 → ∀ b, b < 2 → a ≠ b → (TX1 a).2.1 ≠ (TX1 b).2.1 := by decide +kernel
theorem tyX1_ok : ∀ k, k < 2 → parseFieldDescriptor (TX1 k).2.2.1 = some (tyX1 k) := by decide +kernel
abbrev cX1_init : ByteArray := prog_3_method_1_code
def yX1_init : MethodName := ⟨RX1, "<init>", "()V"⟩
abbrev cX1_isZero : ByteArray := prog_3_method_2_code
def yX1_isZero : MethodName := ⟨RX1, "isZero", "()Z"⟩
abbrev cX1_become : ByteArray := prog_3_method_3_code
def yX1_become : MethodName := ⟨RX1, "become", "(LDecimalRegisters$Natural;)V"⟩
abbrev cX1_becomeSizeOf : ByteArray := prog_3_method_4_code
def yX1_becomeSizeOf : MethodName := ⟨RX1, "becomeSizeOf", "(J)V"⟩
abbrev cX1_clear : ByteArray := prog_3_method_5_code
def yX1_clear : MethodName := ⟨RX1, "clear", "()V"⟩
abbrev cX1_precision : ByteArray := prog_3_method_6_code
def yX1_precision : MethodName := ⟨RX1, "precision", "()I"⟩
abbrev cX1_figure : ByteArray := prog_3_method_7_code
def yX1_figure : MethodName := ⟨RX1, "figure", "(I)I"⟩
abbrev cX1_zerosAtEnd : ByteArray := prog_3_method_8_code
def yX1_zerosAtEnd : MethodName := ⟨RX1, "zerosAtEnd", "()I"⟩
abbrev cX1_lowestBits : ByteArray := prog_3_method_9_code
def yX1_lowestBits : MethodName := ⟨RX1, "lowestBits", "()J"⟩
abbrev cX1_order : ByteArray := prog_3_method_10_code
def yX1_order : MethodName := ⟨RX1, "order", "(LDecimalRegisters$Natural;)I"⟩
abbrev cX1_add : ByteArray := prog_3_method_11_code
def yX1_add : MethodName := ⟨RX1, "add", "(LDecimalRegisters$Natural;)V"⟩
abbrev cX1_subtract : ByteArray := prog_3_method_12_code
def yX1_subtract : MethodName := ⟨RX1, "subtract", "(LDecimalRegisters$Natural;)V"⟩
abbrev cX1_becomeProduct : ByteArray := prog_3_method_13_code
def yX1_becomeProduct : MethodName := ⟨RX1, "becomeProduct", "(LDecimalRegisters$Natural;LDecimalRegisters$Natural;)V"⟩
abbrev cX1_raise : ByteArray := prog_3_method_14_code
def yX1_raise : MethodName := ⟨RX1, "raise", "(I)V"⟩
abbrev cX1_shift : ByteArray := prog_3_method_15_code
def yX1_shift : MethodName := ⟨RX1, "shift", "(I)V"⟩
abbrev cX1_takeOut : ByteArray := prog_3_method_16_code
def yX1_takeOut : MethodName := ⟨RX1, "takeOut", "(LDecimalRegisters$Natural;LDecimalRegisters$Natural;)V"⟩
abbrev cX1_guess : ByteArray := prog_3_method_17_code
def yX1_guess : MethodName := ⟨RX1, "guess", "(LDecimalRegisters$Natural;I)J"⟩
abbrev cX1_takeAway : ByteArray := prog_3_method_18_code
def yX1_takeAway : MethodName := ⟨RX1, "takeAway", "(LDecimalRegisters$Natural;JI)V"⟩
abbrev cX1_close : ByteArray := prog_3_method_19_code
def yX1_close : MethodName := ⟨RX1, "close", "(IJ)V"⟩
abbrev cX1_shrink : ByteArray := prog_3_method_20_code
def yX1_shrink : MethodName := ⟨RX1, "shrink", "()V"⟩
def RX2 : String := "DecimalRegisters"
def TX2 : u_T := fun k => match k with
  | 0 => ("DecimalRegisters", "registers", "[LDecimalRegisters$Decimal;", true)
  | 1 => ("DecimalRegisters", "result", "LDecimalRegisters$Decimal;", true)
  | 2 => ("DecimalRegisters", "one", "LDecimalRegisters$Decimal;", true)
  | 3 => ("DecimalRegisters", "top", "LDecimalRegisters$Natural;", true)
  | 4 => ("DecimalRegisters", "bottom", "LDecimalRegisters$Natural;", true)
  | 5 => ("DecimalRegisters", "text", "[C", true)
  | _ => ("DecimalRegisters", "textLength", "I", false)
def tyX2 : Nat → FieldType := fun k => match k with
  | 0 => .array (.object "DecimalRegisters$Decimal")
  | 1 => .object "DecimalRegisters$Decimal"
  | 2 => .object "DecimalRegisters$Decimal"
  | 3 => .object "DecimalRegisters$Natural"
  | 4 => .object "DecimalRegisters$Natural"
  | 5 => .array .char
  | _ => .int
abbrev wsX20 : List Cond := u_ws RX2 TX2 7
theorem nmX2 : ∀ a, a < 7 → ∀ b, b < 7 → a ≠ b → (TX2 a).2.1 ≠ (TX2 b).2.1 := by decide +kernel
theorem tyX2_ok : ∀ k, k < 7 → parseFieldDescriptor (TX2 k).2.2.1 = some (tyX2 k) := by decide +kernel
abbrev cX2_init : ByteArray := prog_1_method_1_code
def yX2_init : MethodName := ⟨RX2, "<init>", "()V"⟩
abbrev cX2_load : ByteArray := prog_1_method_2_code
def yX2_load : MethodName := ⟨RX2, "load", "(IJI)I"⟩
abbrev cX2_push : ByteArray := prog_1_method_3_code
def yX2_push : MethodName := ⟨RX2, "push", "(IJ)I"⟩
abbrev cX2_reckon : ByteArray := prog_1_method_4_code
def yX2_reckon : MethodName := ⟨RX2, "reckon", "(IIII)I"⟩
abbrev cX2_divide : ByteArray := prog_1_method_5_code
def yX2_divide : MethodName := ⟨RX2, "divide", "(IIIII)I"⟩
abbrev cX2_part : ByteArray := prog_1_method_6_code
def yX2_part : MethodName := ⟨RX2, "part", "(IIII)I"⟩
abbrev cX2_scale : ByteArray := prog_1_method_7_code
def yX2_scale : MethodName := ⟨RX2, "scale", "(IIII)I"⟩
abbrev cX2_round : ByteArray := prog_1_method_8_code
def yX2_round : MethodName := ⟨RX2, "round", "(IIII)I"⟩
abbrev cX2_turn : ByteArray := prog_1_method_9_code
def yX2_turn : MethodName := ⟨RX2, "turn", "(III)I"⟩
abbrev cX2_move : ByteArray := prog_1_method_10_code
def yX2_move : MethodName := ⟨RX2, "move", "(IIII)I"⟩
abbrev cX2_power : ByteArray := prog_1_method_11_code
def yX2_power : MethodName := ⟨RX2, "power", "(III)I"⟩
abbrev cX2_compare : ByteArray := prog_1_method_12_code
def yX2_compare : MethodName := ⟨RX2, "compare", "(II)I"⟩
abbrev cX2_same : ByteArray := prog_1_method_13_code
def yX2_same : MethodName := ⟨RX2, "same", "(II)Z"⟩
abbrev cX2_look : ByteArray := prog_1_method_14_code
def yX2_look : MethodName := ⟨RX2, "look", "(II)I"⟩
abbrev cX2_digit : ByteArray := prog_1_method_15_code
def yX2_digit : MethodName := ⟨RX2, "digit", "(II)I"⟩
abbrev cX2_whole : ByteArray := prog_1_method_16_code
def yX2_whole : MethodName := ⟨RX2, "whole", "(I)J"⟩
abbrev cX2_write : ByteArray := prog_1_method_17_code
def yX2_write : MethodName := ⟨RX2, "write", "(I)I"⟩
abbrev cX2_octet : ByteArray := prog_1_method_18_code
def yX2_octet : MethodName := ⟨RX2, "octet", "(I)I"⟩
abbrev cX2_isRegister : ByteArray := prog_1_method_19_code
def yX2_isRegister : MethodName := ⟨RX2, "isRegister", "(I)Z"⟩
abbrev cX2_isWay : ByteArray := prog_1_method_20_code
def yX2_isWay : MethodName := ⟨RX2, "isWay", "(I)Z"⟩
abbrev cX2_isScale : ByteArray := prog_1_method_21_code
def yX2_isScale : MethodName := ⟨RX2, "isScale", "(I)Z"⟩
abbrev cX2_keep : ByteArray := prog_1_method_22_code
def yX2_keep : MethodName := ⟨RX2, "keep", "(I)I"⟩
abbrev cX2_keepQuotient : ByteArray := prog_1_method_23_code
def yX2_keepQuotient : MethodName := ⟨RX2, "keepQuotient", "(ILDecimalRegisters$Decimal;LDecimalRegisters$Decimal;II)I"⟩
abbrev cX2_align : ByteArray := prog_1_method_24_code
def yX2_align : MethodName := ⟨RX2, "align", "(LDecimalRegisters$Decimal;LDecimalRegisters$Decimal;I)V"⟩
abbrev cX2_split : ByteArray := prog_1_method_25_code
def yX2_split : MethodName := ⟨RX2, "split", "(LDecimalRegisters$Decimal;LDecimalRegisters$Decimal;I)V"⟩
abbrev cX2_settle : ByteArray := prog_1_method_26_code
def yX2_settle : MethodName := ⟨RX2, "settle", "(I)Z"⟩
abbrev cX2_isAwayFromZero : ByteArray := prog_1_method_27_code
def yX2_isAwayFromZero : MethodName := ⟨RX2, "isAwayFromZero", "(II)Z"⟩
abbrev cX2_cutOff : ByteArray := prog_1_method_28_code
def yX2_cutOff : MethodName := ⟨RX2, "cutOff", "(I)V"⟩
abbrev cX2_cutOffZeros : ByteArray := prog_1_method_29_code
def yX2_cutOffZeros : MethodName := ⟨RX2, "cutOffZeros", "()V"⟩
abbrev cX2_addUp : ByteArray := prog_1_method_30_code
def yX2_addUp : MethodName := ⟨RX2, "addUp", "(LDecimalRegisters$Decimal;LDecimalRegisters$Decimal;Z)V"⟩
abbrev cX2_multiply : ByteArray := prog_1_method_31_code
def yX2_multiply : MethodName := ⟨RX2, "multiply", "(LDecimalRegisters$Decimal;LDecimalRegisters$Decimal;)V"⟩
abbrev cX2_order : ByteArray := prog_1_method_32_code
def yX2_order : MethodName := ⟨RX2, "order", "(LDecimalRegisters$Decimal;LDecimalRegisters$Decimal;)I"⟩
abbrev cX2_appendFigures : ByteArray := prog_1_method_33_code
def yX2_appendFigures : MethodName := ⟨RX2, "appendFigures", "(LDecimalRegisters$Decimal;)V"⟩
abbrev cX2_appendZeros : ByteArray := prog_1_method_34_code
def yX2_appendZeros : MethodName := ⟨RX2, "appendZeros", "(I)V"⟩
abbrev cX2_append : ByteArray := prog_1_method_35_code
def yX2_append : MethodName := ⟨RX2, "append", "(C)V"⟩
def RX3 : String := "DecimalRegistersModel$Row"
def TX3 : u_T := fun k => match k with
  | 0 => ("DecimalRegistersModel$Row", "d", "[I", true)
  | 1 => ("DecimalRegistersModel$Row", "n", "I", false)
  | 2 => ("DecimalRegistersModel$Row", "minus", "Z", false)
  | _ => ("DecimalRegistersModel$Row", "scale", "I", false)
def tyX3 : Nat → FieldType := fun k => match k with
  | 0 => .array .int
  | 1 => .int
  | 2 => .boolean
  | _ => .int
abbrev wsX30 : List Cond := u_ws RX3 TX3 4
theorem nmX3 : ∀ a, a < 4 → ∀ b, b < 4 → a ≠ b → (TX3 a).2.1 ≠ (TX3 b).2.1 := by decide +kernel
theorem tyX3_ok : ∀ k, k < 4 → parseFieldDescriptor (TX3 k).2.2.1 = some (tyX3 k) := by decide +kernel
abbrev cX3_init : ByteArray := prog_6_method_1_code
def yX3_init : MethodName := ⟨RX3, "<init>", "()V"⟩
abbrev cX3_isZero : ByteArray := prog_6_method_2_code
def yX3_isZero : MethodName := ⟨RX3, "isZero", "()Z"⟩
abbrev cX3_zero : ByteArray := prog_6_method_3_code
def yX3_zero : MethodName := ⟨RX3, "zero", "()V"⟩
abbrev cX3_trim : ByteArray := prog_6_method_4_code
def yX3_trim : MethodName := ⟨RX3, "trim", "()V"⟩
abbrev cX3_take : ByteArray := prog_6_method_5_code
def yX3_take : MethodName := ⟨RX3, "take", "(LDecimalRegistersModel$Row;)V"⟩
abbrev cX3_up : ByteArray := prog_6_method_6_code
def yX3_up : MethodName := ⟨RX3, "up", "(I)V"⟩
abbrev cX3_ends : ByteArray := prog_6_method_7_code
def yX3_ends : MethodName := ⟨RX3, "ends", "(I)Z"⟩
abbrev cX3_more : ByteArray := prog_6_method_8_code
def yX3_more : MethodName := ⟨RX3, "more", "()V"⟩
def RX4 : String := "DecimalRegistersModel"
def TX4 : u_T := fun k => match k with
  | 0 => ("DecimalRegistersModel", "registers", "[LDecimalRegistersModel$Row;", true)
  | 1 => ("DecimalRegistersModel", "a", "LDecimalRegistersModel$Row;", true)
  | 2 => ("DecimalRegistersModel", "b", "LDecimalRegistersModel$Row;", true)
  | 3 => ("DecimalRegistersModel", "c", "LDecimalRegistersModel$Row;", true)
  | 4 => ("DecimalRegistersModel", "e", "LDecimalRegistersModel$Row;", true)
  | 5 => ("DecimalRegistersModel", "text", "[I", true)
  | _ => ("DecimalRegistersModel", "length", "I", false)
def tyX4 : Nat → FieldType := fun k => match k with
  | 0 => .array (.object "DecimalRegistersModel$Row")
  | 1 => .object "DecimalRegistersModel$Row"
  | 2 => .object "DecimalRegistersModel$Row"
  | 3 => .object "DecimalRegistersModel$Row"
  | 4 => .object "DecimalRegistersModel$Row"
  | 5 => .array .int
  | _ => .int
abbrev wsX40 : List Cond := u_ws RX4 TX4 7
theorem nmX4 : ∀ a, a < 7 → ∀ b, b < 7 → a ≠ b → (TX4 a).2.1 ≠ (TX4 b).2.1 := by decide +kernel
theorem tyX4_ok : ∀ k, k < 7 → parseFieldDescriptor (TX4 k).2.2.1 = some (tyX4 k) := by decide +kernel
abbrev cX4_init : ByteArray := prog_5_method_1_code
def yX4_init : MethodName := ⟨RX4, "<init>", "()V"⟩
abbrev cX4_is : ByteArray := prog_5_method_2_code
def yX4_is : MethodName := ⟨RX4, "is", "(I)Z"⟩
abbrev cX4_isScale : ByteArray := prog_5_method_3_code
def yX4_isScale : MethodName := ⟨RX4, "isScale", "(J)Z"⟩
abbrev cX4_keep : ByteArray := prog_5_method_4_code
def yX4_keep : MethodName := ⟨RX4, "keep", "(ILDecimalRegistersModel$Row;)I"⟩
abbrev cX4_load : ByteArray := prog_5_method_5_code
def yX4_load : MethodName := ⟨RX4, "load", "(IJI)I"⟩
abbrev cX4_push : ByteArray := prog_5_method_6_code
def yX4_push : MethodName := ⟨RX4, "push", "(IJ)I"⟩
abbrev cX4_sizes : ByteArray := prog_5_method_7_code
def yX4_sizes : MethodName := ⟨RX4, "sizes", "(LDecimalRegistersModel$Row;LDecimalRegistersModel$Row;)I"⟩
abbrev cX4_align : ByteArray := prog_5_method_8_code
def yX4_align : MethodName := ⟨RX4, "align", "(II)V"⟩
abbrev cX4_order : ByteArray := prog_5_method_9_code
def yX4_order : MethodName := ⟨RX4, "order", "(II)I"⟩
abbrev cX4_sum : ByteArray := prog_5_method_10_code
def yX4_sum : MethodName := ⟨RX4, "sum", "(Z)V"⟩
abbrev cX4_product : ByteArray := prog_5_method_11_code
def yX4_product : MethodName := ⟨RX4, "product", "(LDecimalRegistersModel$Row;LDecimalRegistersModel$Row;LDecimalRegistersModel$Row;)V"⟩
abbrev cX4_reckon : ByteArray := prog_5_method_12_code
def yX4_reckon : MethodName := ⟨RX4, "reckon", "(IIII)I"⟩
abbrev cX4_over : ByteArray := prog_5_method_13_code
def yX4_over : MethodName := ⟨RX4, "over", "()V"⟩
abbrev cX4_turns : ByteArray := prog_5_method_14_code
def yX4_turns : MethodName := ⟨RX4, "turns", "(IZIZ)Z"⟩
abbrev cX4_divide : ByteArray := prog_5_method_15_code
def yX4_divide : MethodName := ⟨RX4, "divide", "(IIIII)I"⟩
abbrev cX4_part : ByteArray := prog_5_method_16_code
def yX4_part : MethodName := ⟨RX4, "part", "(IIII)I"⟩
abbrev cX4_cut : ByteArray := prog_5_method_17_code
def yX4_cut : MethodName := ⟨RX4, "cut", "(II)Z"⟩
abbrev cX4_scale : ByteArray := prog_5_method_18_code
def yX4_scale : MethodName := ⟨RX4, "scale", "(IIII)I"⟩
abbrev cX4_round : ByteArray := prog_5_method_19_code
def yX4_round : MethodName := ⟨RX4, "round", "(IIII)I"⟩
abbrev cX4_turn : ByteArray := prog_5_method_20_code
def yX4_turn : MethodName := ⟨RX4, "turn", "(III)I"⟩
abbrev cX4_move : ByteArray := prog_5_method_21_code
def yX4_move : MethodName := ⟨RX4, "move", "(IIII)I"⟩
abbrev cX4_power : ByteArray := prog_5_method_22_code
def yX4_power : MethodName := ⟨RX4, "power", "(III)I"⟩
abbrev cX4_compare : ByteArray := prog_5_method_23_code
def yX4_compare : MethodName := ⟨RX4, "compare", "(II)I"⟩
abbrev cX4_same : ByteArray := prog_5_method_24_code
def yX4_same : MethodName := ⟨RX4, "same", "(II)Z"⟩
abbrev cX4_look : ByteArray := prog_5_method_25_code
def yX4_look : MethodName := ⟨RX4, "look", "(II)I"⟩
abbrev cX4_digit : ByteArray := prog_5_method_26_code
def yX4_digit : MethodName := ⟨RX4, "digit", "(II)I"⟩
abbrev cX4_whole : ByteArray := prog_5_method_27_code
def yX4_whole : MethodName := ⟨RX4, "whole", "(I)J"⟩
abbrev cX4_sign : ByteArray := prog_5_method_28_code
def yX4_sign : MethodName := ⟨RX4, "sign", "(I)V"⟩
abbrev cX4_write : ByteArray := prog_5_method_29_code
def yX4_write : MethodName := ⟨RX4, "write", "(I)I"⟩
abbrev cX4_octet : ByteArray := prog_5_method_30_code
def yX4_octet : MethodName := ⟨RX4, "octet", "(I)I"⟩
def RJ9 : String := "java/lang/Math"
def TJ9 : u_T := fun k => match k with
  | _ => ("", "", "", false)
def tyJ9 : Nat → FieldType := fun k => match k with
  | _ => .int
abbrev wsJ90 : List Cond := u_ws RJ9 TJ9 0
theorem nmJ9 : ∀ a, a < 0 → ∀ b, b < 0 → a ≠ b → (TJ9 a).2.1 ≠ (TJ9 b).2.1 := by decide +kernel
theorem tyJ9_ok : ∀ k, k < 0 → parseFieldDescriptor (TJ9 k).2.2.1 = some (tyJ9 k) := by decide +kernel
abbrev cJ9_floorDiv_f86c9 : ByteArray := prog_7_method_49_code
def yJ9_floorDiv_f86c9 : MethodName := ⟨RJ9, "floorDiv", "(JJ)J"⟩
abbrev cJ9_abs_067f4 : ByteArray := prog_7_method_61_code
def yJ9_abs_067f4 : MethodName := ⟨RJ9, "abs", "(J)J"⟩
abbrev cJ9_max_7cf53 : ByteArray := prog_7_method_65_code
def yJ9_max_7cf53 : MethodName := ⟨RJ9, "max", "(II)I"⟩
def RJ10 : String := "java/lang/System"
def TJ10 : u_T := fun k => match k with
  | _ => ("", "", "", false)
def tyJ10 : Nat → FieldType := fun k => match k with
  | _ => .int
abbrev wsJ100 : List Cond := u_ws RJ10 TJ10 0
theorem nmJ10 : ∀ a, a < 0 → ∀ b, b < 0 → a ≠ b → (TJ10 a).2.1 ≠ (TJ10 b).2.1 := by decide +kernel
theorem tyJ10_ok : ∀ k, k < 0 → parseFieldDescriptor (TJ10 k).2.2.1 = some (tyJ10 k) := by decide +kernel
def RL : String := "DecimalRegistersLaw"
abbrev cL_law : ByteArray := code
def yL_law : MethodName := ⟨RL, "law", "([I)Z"⟩
def wsX1_init : List Cond := .code yX1_init cX1_init 1 none :: ([.methodLink RX1 1 objectInit, .instanceMethod objectInit, .code objectInit ⟨#[0xb1]⟩ 1 none, .arrayClass .long, .fieldLink RX1 9 "DecimalRegisters$Natural" "limbs" "[J"] ++ wsX10)
def wsX0_init : List Cond := .code yX0_init cX0_init 1 none :: ([.methodLink RX0 1 objectInit, .instanceMethod objectInit, .code objectInit ⟨#[0xb1]⟩ 1 none, .classLink RX0 7 RX1, .instantiable RX1 2, .initialized RX1, .fieldLink RX0 10 "DecimalRegisters$Decimal" "digits" "LDecimalRegisters$Natural;", .instanceMethod yX1_init, .code yX1_init cX1_init 1 none, .methodLink RX1 1 objectInit, .arrayClass .long, .fieldLink RX1 9 "DecimalRegisters$Natural" "limbs" "[J"] ++ wsX10 ++ wsX00)
def wsX1_become : List Cond := .code yX1_become cX1_become 2 none :: ([.fieldLink RX1 9 "DecimalRegisters$Natural" "limbs" "[J", .methodLink RX1 17 arraycopyName, .native arraycopyName, .static arraycopyName, .initialized "java/lang/System", .fieldLink RX1 13 "DecimalRegisters$Natural" "size" "I"] ++ wsX10)
def wsX1_isZero : List Cond := .code yX1_isZero cX1_isZero 1 (some .boolean) :: ([.fieldLink RX1 13 "DecimalRegisters$Natural" "size" "I"] ++ wsX10)
def wsX0_take : List Cond := .code yX0_take cX0_take 4 none :: ([.fieldLink RX0 10 "DecimalRegisters$Decimal" "digits" "LDecimalRegisters$Natural;", .fieldLink RX0 16 "DecimalRegisters$Decimal" "minus" "Z", .fieldLink RX0 20 "DecimalRegisters$Decimal" "scale" "I", .methodLink RX0 28 yX1_become, .instanceMethod yX1_become, .selects RX1 yX1_become yX1_become, .initialized RX1, .code yX1_become cX1_become 2 none, .fieldLink RX1 9 "DecimalRegisters$Natural" "limbs" "[J", .methodLink RX1 17 arraycopyName, .native arraycopyName, .static arraycopyName, .initialized "java/lang/System", .fieldLink RX1 13 "DecimalRegisters$Natural" "size" "I", .methodLink RX0 32 yX1_isZero, .instanceMethod yX1_isZero, .selects RX1 yX1_isZero yX1_isZero, .code yX1_isZero cX1_isZero 1 (some .boolean)] ++ wsX00 ++ wsX10)
def wsX0_become : List Cond := .code yX0_become cX0_become 2 none :: ([.fieldLink RX0 10 "DecimalRegisters$Decimal" "digits" "LDecimalRegisters$Natural;", .fieldLink RX0 16 "DecimalRegisters$Decimal" "minus" "Z", .fieldLink RX0 20 "DecimalRegisters$Decimal" "scale" "I", .methodLink RX0 24 yX0_take, .instanceMethod yX0_take, .selects RX0 yX0_take yX0_take, .initialized RX0, .code yX0_take cX0_take 4 none, .methodLink RX0 28 yX1_become, .instanceMethod yX1_become, .selects RX1 yX1_become yX1_become, .initialized RX1, .code yX1_become cX1_become 2 none, .fieldLink RX1 9 "DecimalRegisters$Natural" "limbs" "[J", .methodLink RX1 17 arraycopyName, .native arraycopyName, .static arraycopyName, .initialized "java/lang/System", .fieldLink RX1 13 "DecimalRegisters$Natural" "size" "I", .methodLink RX0 32 yX1_isZero, .instanceMethod yX1_isZero, .selects RX1 yX1_isZero yX1_isZero, .code yX1_isZero cX1_isZero 1 (some .boolean)] ++ wsX00 ++ wsX10)
def wsX0_sign : List Cond := .code yX0_sign cX0_sign 1 (some .int) :: ([.fieldLink RX0 10 "DecimalRegisters$Decimal" "digits" "LDecimalRegisters$Natural;", .fieldLink RX0 16 "DecimalRegisters$Decimal" "minus" "Z", .methodLink RX0 32 yX1_isZero, .instanceMethod yX1_isZero, .selects RX1 yX1_isZero yX1_isZero, .initialized RX1, .code yX1_isZero cX1_isZero 1 (some .boolean), .fieldLink RX1 13 "DecimalRegisters$Natural" "size" "I"] ++ wsX00 ++ wsX10)
def wsX1_clear : List Cond := .code yX1_clear cX1_clear 2 none :: ([.fieldLink RX1 13 "DecimalRegisters$Natural" "size" "I", .fieldLink RX1 9 "DecimalRegisters$Natural" "limbs" "[J"] ++ wsX10)
def wsX1_becomeSizeOf : List Cond := .code yX1_becomeSizeOf cX1_becomeSizeOf 6 none :: ([.fieldLink RX1 9 "DecimalRegisters$Natural" "limbs" "[J", .constantLong RX1 26 (1000000), .methodLink RX1 28 Lib.MathLoose.abs_long.x, .static Lib.MathLoose.abs_long.x, .initialized "java/lang/Math", .code Lib.MathLoose.abs_long.x Lib.MathLoose.abs_long.code 2 (some .long), .fieldLink RX1 13 "DecimalRegisters$Natural" "size" "I", .methodLink RX1 23 yX1_clear, .instanceMethod yX1_clear, .selects RX1 yX1_clear yX1_clear, .initialized RX1, .code yX1_clear cX1_clear 2 none] ++ wsX10)
def wsX1_figure : List Cond := .code yX1_figure cX1_figure 3 (some .int) :: ([.fieldLink RX1 13 "DecimalRegisters$Natural" "size" "I", .fieldLink RX1 9 "DecimalRegisters$Natural" "limbs" "[J", .fieldLink RX1 42 "DecimalRegisters$Natural" "TENS" "[J", .constantLong RX1 45 (10)] ++ wsX10)
def wsX1_precision : List Cond := .code yX1_precision cX1_precision 2 (some .int) :: ([.fieldLink RX1 13 "DecimalRegisters$Natural" "size" "I", .methodLink RX1 38 Lib.Math.max.name, .static Lib.Math.max.name, .initialized "java/lang/Math", .code Lib.Math.max.name Lib.Math.max.code 2 (some .int), .methodLink RX1 34 yX1_figure, .instanceMethod yX1_figure, .selects RX1 yX1_figure yX1_figure, .initialized RX1, .code yX1_figure cX1_figure 3 (some .int), .fieldLink RX1 9 "DecimalRegisters$Natural" "limbs" "[J", .fieldLink RX1 42 "DecimalRegisters$Natural" "TENS" "[J", .constantLong RX1 45 (10)] ++ wsX10)
def wsX1_zerosAtEnd : List Cond := .code yX1_zerosAtEnd cX1_zerosAtEnd 3 (some .int) :: ([.fieldLink RX1 13 "DecimalRegisters$Natural" "size" "I", .methodLink RX1 34 yX1_figure, .instanceMethod yX1_figure, .selects RX1 yX1_figure yX1_figure, .initialized RX1, .code yX1_figure cX1_figure 3 (some .int), .fieldLink RX1 9 "DecimalRegisters$Natural" "limbs" "[J", .fieldLink RX1 42 "DecimalRegisters$Natural" "TENS" "[J", .constantLong RX1 45 (10)] ++ wsX10)
def wsX1_lowestBits : List Cond := .code yX1_lowestBits cX1_lowestBits 4 (some .long) :: ([.fieldLink RX1 13 "DecimalRegisters$Natural" "size" "I", .constantLong RX1 26 (1000000), .fieldLink RX1 9 "DecimalRegisters$Natural" "limbs" "[J"] ++ wsX10)
def wsX1_order : List Cond := .code yX1_order cX1_order 3 (some .int) :: ([.fieldLink RX1 13 "DecimalRegisters$Natural" "size" "I", .fieldLink RX1 9 "DecimalRegisters$Natural" "limbs" "[J"] ++ wsX10)
def wsX1_close : List Cond := .code yX1_close cX1_close 4 none :: ([.fieldLink RX1 13 "DecimalRegisters$Natural" "size" "I", .fieldLink RX1 9 "DecimalRegisters$Natural" "limbs" "[J"] ++ wsX10)
def wsX1_add : List Cond := .code yX1_add cX1_add 8 none :: ([.fieldLink RX1 13 "DecimalRegisters$Natural" "size" "I", .methodLink RX1 38 Lib.Math.max.name, .static Lib.Math.max.name, .initialized "java/lang/Math", .code Lib.Math.max.name Lib.Math.max.code 2 (some .int), .fieldLink RX1 9 "DecimalRegisters$Natural" "limbs" "[J", .constantLong RX1 26 (1000000), .methodLink RX1 47 yX1_close, .instanceMethod yX1_close, .selects RX1 yX1_close yX1_close, .initialized RX1, .code yX1_close cX1_close 4 none] ++ wsX10)
def wsX1_shrink : List Cond := .code yX1_shrink cX1_shrink 1 none :: ([.fieldLink RX1 13 "DecimalRegisters$Natural" "size" "I", .fieldLink RX1 9 "DecimalRegisters$Natural" "limbs" "[J"] ++ wsX10)
def wsX1_subtract : List Cond := .code yX1_subtract cX1_subtract 7 none :: ([.fieldLink RX1 13 "DecimalRegisters$Natural" "size" "I", .fieldLink RX1 9 "DecimalRegisters$Natural" "limbs" "[J", .constantLong RX1 26 (1000000), .methodLink RX1 51 yX1_shrink, .instanceMethod yX1_shrink, .selects RX1 yX1_shrink yX1_shrink, .initialized RX1, .code yX1_shrink cX1_shrink 1 none] ++ wsX10)
def wsX1_becomeProduct : List Cond := .code yX1_becomeProduct cX1_becomeProduct 9 none :: ([.fieldLink RX1 13 "DecimalRegisters$Natural" "size" "I", .fieldLink RX1 9 "DecimalRegisters$Natural" "limbs" "[J", .constantLong RX1 26 (1000000), .methodLink RX1 23 yX1_clear, .instanceMethod yX1_clear, .selects RX1 yX1_clear yX1_clear, .initialized RX1, .code yX1_clear cX1_clear 2 none, .methodLink RX1 51 yX1_shrink, .instanceMethod yX1_shrink, .selects RX1 yX1_shrink yX1_shrink, .code yX1_shrink cX1_shrink 1 none] ++ wsX10)
def wsX1_shift : List Cond := .code yX1_shift cX1_shift 3 none :: ([.fieldLink RX1 13 "DecimalRegisters$Natural" "size" "I", .fieldLink RX1 9 "DecimalRegisters$Natural" "limbs" "[J"] ++ wsX10)
def wsX1_raise : List Cond := .code yX1_raise cX1_raise 10 none :: ([.fieldLink RX1 13 "DecimalRegisters$Natural" "size" "I", .fieldLink RX1 42 "DecimalRegisters$Natural" "TENS" "[J", .fieldLink RX1 9 "DecimalRegisters$Natural" "limbs" "[J", .constantLong RX1 26 (1000000), .methodLink RX1 47 yX1_close, .instanceMethod yX1_close, .selects RX1 yX1_close yX1_close, .initialized RX1, .code yX1_close cX1_close 4 none, .methodLink RX1 54 yX1_shift, .instanceMethod yX1_shift, .selects RX1 yX1_shift yX1_shift, .code yX1_shift cX1_shift 3 none] ++ wsX10)
def wsX1_guess : List Cond := .code yX1_guess cX1_guess 8 (some .long) :: ([.fieldLink RX1 13 "DecimalRegisters$Natural" "size" "I", .fieldLink RX1 9 "DecimalRegisters$Natural" "limbs" "[J", .constantLong RX1 26 (1000000)] ++ wsX10)
def wsJ9_floorDiv_f86c9 : List Cond := .code yJ9_floorDiv_f86c9 cJ9_floorDiv_f86c9 6 (some .long) :: ([])
def wsX1_takeAway : List Cond := .code yX1_takeAway cX1_takeAway 10 none :: ([.fieldLink RX1 13 "DecimalRegisters$Natural" "size" "I", .fieldLink RX1 9 "DecimalRegisters$Natural" "limbs" "[J", .constantLong RX1 26 (1000000), .methodLink RX1 68 yJ9_floorDiv_f86c9, .static yJ9_floorDiv_f86c9, .initialized RJ9, .code yJ9_floorDiv_f86c9 cJ9_floorDiv_f86c9 6 (some .long)] ++ wsX10)
def wsX1_takeOut_r1 : List Cond := [Cond.fieldLink RX1 13 "DecimalRegisters$Natural" "size" "I", Cond.fieldLink RX1 9 "DecimalRegisters$Natural" "limbs" "[J", Cond.constantLong RX1 66 (-1), Cond.methodLink RX1 23 yX1_clear, Cond.instanceMethod yX1_clear, Cond.selects RX1 yX1_clear yX1_clear, Cond.initialized RX1, Cond.code yX1_clear cX1_clear 2 none, Cond.methodLink RX1 58 yX1_guess, Cond.instanceMethod yX1_guess, Cond.selects RX1 yX1_guess yX1_guess, Cond.code yX1_guess cX1_guess 8 (some .long), Cond.constantLong RX1 26 (1000000), Cond.methodLink RX1 62 yX1_takeAway, Cond.instanceMethod yX1_takeAway, Cond.selects RX1 yX1_takeAway yX1_takeAway, Cond.code yX1_takeAway cX1_takeAway 10 none, Cond.methodLink RX1 68 yJ9_floorDiv_f86c9, Cond.static yJ9_floorDiv_f86c9, Cond.initialized RJ9, Cond.code yJ9_floorDiv_f86c9 cJ9_floorDiv_f86c9 6 (some .long), Cond.methodLink RX1 51 yX1_shrink, Cond.instanceMethod yX1_shrink, Cond.selects RX1 yX1_shrink yX1_shrink]
def wsX1_takeOut_r2 : List Cond := [Cond.code yX1_shrink cX1_shrink 1 none]
def wsX1_takeOut : List Cond := .code yX1_takeOut cX1_takeOut 7 none :: ((wsX1_takeOut_r1 ++ wsX1_takeOut_r2) ++ wsX10)
def wsX2_init_r1 : List Cond := [Cond.methodLink RX2 1 objectInit, Cond.instanceMethod objectInit, Cond.code objectInit ⟨#[0xb1]⟩ 1 none, Cond.classLink RX2 9 RX0, Cond.fieldLink RX2 11 "DecimalRegisters" "registers" "[LDecimalRegisters$Decimal;", Cond.instantiable RX0 3, Cond.initialized RX0, Cond.fieldLink RX2 16 "DecimalRegisters" "result" "LDecimalRegisters$Decimal;", Cond.fieldLink RX2 20 "DecimalRegisters" "one" "LDecimalRegisters$Decimal;", Cond.fieldLink RX2 23 "DecimalRegisters$Decimal" "digits" "LDecimalRegisters$Natural;", Cond.classLink RX2 28 RX1, Cond.instantiable RX1 2, Cond.initialized RX1, Cond.fieldLink RX2 34 "DecimalRegisters" "top" "LDecimalRegisters$Natural;", Cond.fieldLink RX2 37 "DecimalRegisters" "bottom" "LDecimalRegisters$Natural;", Cond.arrayClass .char, Cond.fieldLink RX2 40 "DecimalRegisters" "text" "[C", Cond.fieldLink RX2 44 "DecimalRegisters" "textLength" "I", Cond.instanceMethod yX0_init, Cond.code yX0_init cX0_init 1 none, Cond.methodLink RX0 1 objectInit, Cond.classLink RX0 7 RX1, Cond.fieldLink RX0 10 "DecimalRegisters$Decimal" "digits" "LDecimalRegisters$Natural;", Cond.instanceMethod yX1_init]
def wsX2_init_r2 : List Cond := [Cond.code yX1_init cX1_init 1 none, Cond.methodLink RX1 1 objectInit, Cond.arrayClass .long, Cond.fieldLink RX1 9 "DecimalRegisters$Natural" "limbs" "[J", Cond.methodLink RX2 27 yX1_becomeSizeOf, Cond.instanceMethod yX1_becomeSizeOf, Cond.selects RX1 yX1_becomeSizeOf yX1_becomeSizeOf, Cond.code yX1_becomeSizeOf cX1_becomeSizeOf 6 none, Cond.constantLong RX1 26 (1000000), Cond.methodLink RX1 28 Lib.MathLoose.abs_long.x, Cond.static Lib.MathLoose.abs_long.x, Cond.initialized "java/lang/Math", Cond.code Lib.MathLoose.abs_long.x Lib.MathLoose.abs_long.code 2 (some .long), Cond.fieldLink RX1 13 "DecimalRegisters$Natural" "size" "I", Cond.methodLink RX1 23 yX1_clear, Cond.instanceMethod yX1_clear, Cond.selects RX1 yX1_clear yX1_clear, Cond.code yX1_clear cX1_clear 2 none]
def wsX2_init : List Cond := .code yX2_init cX2_init 2 none :: ((wsX2_init_r1 ++ wsX2_init_r2) ++ wsX20 ++ wsX00 ++ wsX10)
def wsX2_isRegister : List Cond := .code yX2_isRegister cX2_isRegister 1 (some .boolean) :: ([])
def wsX2_isScale : List Cond := .code yX2_isScale cX2_isScale 1 (some .boolean) :: ([])
def wsX2_keep_r1 : List Cond := [Cond.fieldLink RX2 16 "DecimalRegisters" "result" "LDecimalRegisters$Decimal;", Cond.fieldLink RX2 23 "DecimalRegisters$Decimal" "digits" "LDecimalRegisters$Natural;", Cond.fieldLink RX2 56 "DecimalRegisters$Decimal" "scale" "I", Cond.fieldLink RX2 11 "DecimalRegisters" "registers" "[LDecimalRegisters$Decimal;", Cond.methodLink RX2 114 yX1_precision, Cond.instanceMethod yX1_precision, Cond.selects RX1 yX1_precision yX1_precision, Cond.initialized RX1, Cond.code yX1_precision cX1_precision 2 (some .int), Cond.fieldLink RX1 13 "DecimalRegisters$Natural" "size" "I", Cond.methodLink RX1 38 Lib.Math.max.name, Cond.static Lib.Math.max.name, Cond.initialized "java/lang/Math", Cond.code Lib.Math.max.name Lib.Math.max.code 2 (some .int), Cond.methodLink RX1 34 yX1_figure, Cond.instanceMethod yX1_figure, Cond.selects RX1 yX1_figure yX1_figure, Cond.code yX1_figure cX1_figure 3 (some .int), Cond.fieldLink RX1 9 "DecimalRegisters$Natural" "limbs" "[J", Cond.fieldLink RX1 42 "DecimalRegisters$Natural" "TENS" "[J", Cond.constantLong RX1 45 (10), Cond.methodLink RX2 150 yX2_isScale, Cond.static yX2_isScale, Cond.initialized RX2]
def wsX2_keep_r2 : List Cond := [Cond.code yX2_isScale cX2_isScale 1 (some .boolean), Cond.methodLink RX2 63 yX0_become, Cond.instanceMethod yX0_become, Cond.selects RX0 yX0_become yX0_become, Cond.initialized RX0, Cond.code yX0_become cX0_become 2 none, Cond.fieldLink RX0 10 "DecimalRegisters$Decimal" "digits" "LDecimalRegisters$Natural;", Cond.fieldLink RX0 16 "DecimalRegisters$Decimal" "minus" "Z", Cond.fieldLink RX0 20 "DecimalRegisters$Decimal" "scale" "I", Cond.methodLink RX0 24 yX0_take, Cond.instanceMethod yX0_take, Cond.selects RX0 yX0_take yX0_take, Cond.code yX0_take cX0_take 4 none, Cond.methodLink RX0 28 yX1_become, Cond.instanceMethod yX1_become, Cond.selects RX1 yX1_become yX1_become, Cond.code yX1_become cX1_become 2 none, Cond.methodLink RX1 17 arraycopyName, Cond.native arraycopyName, Cond.static arraycopyName, Cond.initialized "java/lang/System", Cond.methodLink RX0 32 yX1_isZero, Cond.instanceMethod yX1_isZero, Cond.selects RX1 yX1_isZero yX1_isZero]
def wsX2_keep_r3 : List Cond := [Cond.code yX1_isZero cX1_isZero 1 (some .boolean)]
def wsX2_keep : List Cond := .code yX2_keep cX2_keep 3 (some .int) :: ((wsX2_keep_r1 ++ (wsX2_keep_r2 ++ wsX2_keep_r3)) ++ wsX20 ++ wsX00 ++ wsX10)
def wsX2_load_r1 : List Cond := [Cond.fieldLink RX2 16 "DecimalRegisters" "result" "LDecimalRegisters$Decimal;", Cond.fieldLink RX2 23 "DecimalRegisters$Decimal" "digits" "LDecimalRegisters$Natural;", Cond.fieldLink RX2 52 "DecimalRegisters$Decimal" "minus" "Z", Cond.fieldLink RX2 56 "DecimalRegisters$Decimal" "scale" "I", Cond.methodLink RX2 48 yX2_isRegister, Cond.static yX2_isRegister, Cond.initialized RX2, Cond.code yX2_isRegister cX2_isRegister 1 (some .boolean), Cond.methodLink RX2 27 yX1_becomeSizeOf, Cond.instanceMethod yX1_becomeSizeOf, Cond.selects RX1 yX1_becomeSizeOf yX1_becomeSizeOf, Cond.initialized RX1, Cond.code yX1_becomeSizeOf cX1_becomeSizeOf 6 none, Cond.fieldLink RX1 9 "DecimalRegisters$Natural" "limbs" "[J", Cond.constantLong RX1 26 (1000000), Cond.methodLink RX1 28 Lib.MathLoose.abs_long.x, Cond.static Lib.MathLoose.abs_long.x, Cond.initialized "java/lang/Math", Cond.code Lib.MathLoose.abs_long.x Lib.MathLoose.abs_long.code 2 (some .long), Cond.fieldLink RX1 13 "DecimalRegisters$Natural" "size" "I", Cond.methodLink RX1 23 yX1_clear, Cond.instanceMethod yX1_clear, Cond.selects RX1 yX1_clear yX1_clear, Cond.code yX1_clear cX1_clear 2 none]
def wsX2_load_r2 : List Cond := [Cond.methodLink RX2 59 yX2_keep, Cond.instanceMethod yX2_keep, Cond.selects RX2 yX2_keep yX2_keep, Cond.code yX2_keep cX2_keep 3 (some .int), Cond.fieldLink RX2 11 "DecimalRegisters" "registers" "[LDecimalRegisters$Decimal;", Cond.methodLink RX2 114 yX1_precision, Cond.instanceMethod yX1_precision, Cond.selects RX1 yX1_precision yX1_precision, Cond.code yX1_precision cX1_precision 2 (some .int), Cond.methodLink RX1 38 Lib.Math.max.name, Cond.static Lib.Math.max.name, Cond.code Lib.Math.max.name Lib.Math.max.code 2 (some .int), Cond.methodLink RX1 34 yX1_figure, Cond.instanceMethod yX1_figure, Cond.selects RX1 yX1_figure yX1_figure, Cond.code yX1_figure cX1_figure 3 (some .int), Cond.fieldLink RX1 42 "DecimalRegisters$Natural" "TENS" "[J", Cond.constantLong RX1 45 (10), Cond.methodLink RX2 150 yX2_isScale, Cond.static yX2_isScale, Cond.code yX2_isScale cX2_isScale 1 (some .boolean), Cond.methodLink RX2 63 yX0_become, Cond.instanceMethod yX0_become, Cond.selects RX0 yX0_become yX0_become]
def wsX2_load_r3 : List Cond := [Cond.initialized RX0, Cond.code yX0_become cX0_become 2 none, Cond.fieldLink RX0 10 "DecimalRegisters$Decimal" "digits" "LDecimalRegisters$Natural;", Cond.fieldLink RX0 16 "DecimalRegisters$Decimal" "minus" "Z", Cond.fieldLink RX0 20 "DecimalRegisters$Decimal" "scale" "I", Cond.methodLink RX0 24 yX0_take, Cond.instanceMethod yX0_take, Cond.selects RX0 yX0_take yX0_take, Cond.code yX0_take cX0_take 4 none, Cond.methodLink RX0 28 yX1_become, Cond.instanceMethod yX1_become, Cond.selects RX1 yX1_become yX1_become, Cond.code yX1_become cX1_become 2 none, Cond.methodLink RX1 17 arraycopyName, Cond.native arraycopyName, Cond.static arraycopyName, Cond.initialized "java/lang/System", Cond.methodLink RX0 32 yX1_isZero, Cond.instanceMethod yX1_isZero, Cond.selects RX1 yX1_isZero yX1_isZero, Cond.code yX1_isZero cX1_isZero 1 (some .boolean)]
def wsX2_load : List Cond := .code yX2_load cX2_load 5 (some .int) :: ((wsX2_load_r1 ++ (wsX2_load_r2 ++ wsX2_load_r3)) ++ wsX20 ++ wsX00 ++ wsX10)
def wsX2_push_r1 : List Cond := [Cond.fieldLink RX2 16 "DecimalRegisters" "result" "LDecimalRegisters$Decimal;", Cond.fieldLink RX2 11 "DecimalRegisters" "registers" "[LDecimalRegisters$Decimal;", Cond.fieldLink RX2 23 "DecimalRegisters$Decimal" "digits" "LDecimalRegisters$Natural;", Cond.fieldLink RX2 34 "DecimalRegisters" "top" "LDecimalRegisters$Natural;", Cond.constantLong RX2 71 (1000000000000000000), Cond.methodLink RX2 48 yX2_isRegister, Cond.static yX2_isRegister, Cond.initialized RX2, Cond.code yX2_isRegister cX2_isRegister 1 (some .boolean), Cond.methodLink RX2 63 yX0_become, Cond.instanceMethod yX0_become, Cond.selects RX0 yX0_become yX0_become, Cond.initialized RX0, Cond.code yX0_become cX0_become 2 none, Cond.fieldLink RX0 10 "DecimalRegisters$Decimal" "digits" "LDecimalRegisters$Natural;", Cond.fieldLink RX0 16 "DecimalRegisters$Decimal" "minus" "Z", Cond.fieldLink RX0 20 "DecimalRegisters$Decimal" "scale" "I", Cond.methodLink RX0 24 yX0_take, Cond.instanceMethod yX0_take, Cond.selects RX0 yX0_take yX0_take, Cond.code yX0_take cX0_take 4 none, Cond.methodLink RX0 28 yX1_become, Cond.instanceMethod yX1_become, Cond.selects RX1 yX1_become yX1_become]
def wsX2_push_r2 : List Cond := [Cond.initialized RX1, Cond.code yX1_become cX1_become 2 none, Cond.fieldLink RX1 9 "DecimalRegisters$Natural" "limbs" "[J", Cond.methodLink RX1 17 arraycopyName, Cond.native arraycopyName, Cond.static arraycopyName, Cond.initialized "java/lang/System", Cond.fieldLink RX1 13 "DecimalRegisters$Natural" "size" "I", Cond.methodLink RX0 32 yX1_isZero, Cond.instanceMethod yX1_isZero, Cond.selects RX1 yX1_isZero yX1_isZero, Cond.code yX1_isZero cX1_isZero 1 (some .boolean), Cond.methodLink RX2 67 yX1_raise, Cond.instanceMethod yX1_raise, Cond.selects RX1 yX1_raise yX1_raise, Cond.code yX1_raise cX1_raise 10 none, Cond.fieldLink RX1 42 "DecimalRegisters$Natural" "TENS" "[J", Cond.constantLong RX1 26 (1000000), Cond.methodLink RX1 47 yX1_close, Cond.instanceMethod yX1_close, Cond.selects RX1 yX1_close yX1_close, Cond.code yX1_close cX1_close 4 none, Cond.methodLink RX1 54 yX1_shift, Cond.instanceMethod yX1_shift]
def wsX2_push_r3 : List Cond := [Cond.selects RX1 yX1_shift yX1_shift, Cond.code yX1_shift cX1_shift 3 none, Cond.methodLink RX2 27 yX1_becomeSizeOf, Cond.instanceMethod yX1_becomeSizeOf, Cond.selects RX1 yX1_becomeSizeOf yX1_becomeSizeOf, Cond.code yX1_becomeSizeOf cX1_becomeSizeOf 6 none, Cond.methodLink RX1 28 Lib.MathLoose.abs_long.x, Cond.static Lib.MathLoose.abs_long.x, Cond.initialized "java/lang/Math", Cond.code Lib.MathLoose.abs_long.x Lib.MathLoose.abs_long.code 2 (some .long), Cond.methodLink RX1 23 yX1_clear, Cond.instanceMethod yX1_clear, Cond.selects RX1 yX1_clear yX1_clear, Cond.code yX1_clear cX1_clear 2 none, Cond.methodLink RX2 73 yX1_add, Cond.instanceMethod yX1_add, Cond.selects RX1 yX1_add yX1_add, Cond.code yX1_add cX1_add 8 none, Cond.methodLink RX1 38 Lib.Math.max.name, Cond.static Lib.Math.max.name, Cond.code Lib.Math.max.name Lib.Math.max.code 2 (some .int), Cond.methodLink RX2 59 yX2_keep, Cond.instanceMethod yX2_keep, Cond.selects RX2 yX2_keep yX2_keep]
def wsX2_push_r4 : List Cond := [Cond.code yX2_keep cX2_keep 3 (some .int), Cond.fieldLink RX2 56 "DecimalRegisters$Decimal" "scale" "I", Cond.methodLink RX2 114 yX1_precision, Cond.instanceMethod yX1_precision, Cond.selects RX1 yX1_precision yX1_precision, Cond.code yX1_precision cX1_precision 2 (some .int), Cond.methodLink RX1 34 yX1_figure, Cond.instanceMethod yX1_figure, Cond.selects RX1 yX1_figure yX1_figure, Cond.code yX1_figure cX1_figure 3 (some .int), Cond.constantLong RX1 45 (10), Cond.methodLink RX2 150 yX2_isScale, Cond.static yX2_isScale, Cond.code yX2_isScale cX2_isScale 1 (some .boolean)]
def wsX2_push : List Cond := .code yX2_push cX2_push 4 (some .int) :: ((wsX2_push_r1 ++ (wsX2_push_r2 ++ (wsX2_push_r3 ++ wsX2_push_r4))) ++ wsX20 ++ wsX00 ++ wsX10)
def wsX2_align_r1 : List Cond := [Cond.fieldLink RX2 56 "DecimalRegisters$Decimal" "scale" "I", Cond.fieldLink RX2 34 "DecimalRegisters" "top" "LDecimalRegisters$Natural;", Cond.fieldLink RX2 23 "DecimalRegisters$Decimal" "digits" "LDecimalRegisters$Natural;", Cond.fieldLink RX2 37 "DecimalRegisters" "bottom" "LDecimalRegisters$Natural;", Cond.methodLink RX2 153 yX1_become, Cond.instanceMethod yX1_become, Cond.selects RX1 yX1_become yX1_become, Cond.initialized RX1, Cond.code yX1_become cX1_become 2 none, Cond.fieldLink RX1 9 "DecimalRegisters$Natural" "limbs" "[J", Cond.methodLink RX1 17 arraycopyName, Cond.native arraycopyName, Cond.static arraycopyName, Cond.initialized "java/lang/System", Cond.fieldLink RX1 13 "DecimalRegisters$Natural" "size" "I", Cond.methodLink RX2 67 yX1_raise, Cond.instanceMethod yX1_raise, Cond.selects RX1 yX1_raise yX1_raise, Cond.code yX1_raise cX1_raise 10 none, Cond.fieldLink RX1 42 "DecimalRegisters$Natural" "TENS" "[J", Cond.constantLong RX1 26 (1000000), Cond.methodLink RX1 47 yX1_close, Cond.instanceMethod yX1_close, Cond.selects RX1 yX1_close yX1_close]
def wsX2_align_r2 : List Cond := [Cond.code yX1_close cX1_close 4 none, Cond.methodLink RX1 54 yX1_shift, Cond.instanceMethod yX1_shift, Cond.selects RX1 yX1_shift yX1_shift, Cond.code yX1_shift cX1_shift 3 none]
def wsX2_align : List Cond := .code yX2_align cX2_align 5 none :: ((wsX2_align_r1 ++ wsX2_align_r2) ++ wsX00 ++ wsX20 ++ wsX10)
def wsX2_addUp_r1 : List Cond := [Cond.fieldLink RX2 56 "DecimalRegisters$Decimal" "scale" "I", Cond.methodLink RX2 100 Lib.Math.max.name, Cond.static Lib.Math.max.name, Cond.initialized "java/lang/Math", Cond.code Lib.Math.max.name Lib.Math.max.code 2 (some .int), Cond.fieldLink RX2 52 "DecimalRegisters$Decimal" "minus" "Z", Cond.fieldLink RX2 34 "DecimalRegisters" "top" "LDecimalRegisters$Natural;", Cond.fieldLink RX2 37 "DecimalRegisters" "bottom" "LDecimalRegisters$Natural;", Cond.fieldLink RX2 16 "DecimalRegisters" "result" "LDecimalRegisters$Decimal;", Cond.methodLink RX2 155 yX2_align, Cond.instanceMethod yX2_align, Cond.selects RX2 yX2_align yX2_align, Cond.initialized RX2, Cond.code yX2_align cX2_align 5 none, Cond.fieldLink RX2 23 "DecimalRegisters$Decimal" "digits" "LDecimalRegisters$Natural;", Cond.methodLink RX2 153 yX1_become, Cond.instanceMethod yX1_become, Cond.selects RX1 yX1_become yX1_become, Cond.initialized RX1, Cond.code yX1_become cX1_become 2 none, Cond.fieldLink RX1 9 "DecimalRegisters$Natural" "limbs" "[J", Cond.methodLink RX1 17 arraycopyName, Cond.native arraycopyName, Cond.static arraycopyName]
def wsX2_addUp_r2 : List Cond := [Cond.initialized "java/lang/System", Cond.fieldLink RX1 13 "DecimalRegisters$Natural" "size" "I", Cond.methodLink RX2 67 yX1_raise, Cond.instanceMethod yX1_raise, Cond.selects RX1 yX1_raise yX1_raise, Cond.code yX1_raise cX1_raise 10 none, Cond.fieldLink RX1 42 "DecimalRegisters$Natural" "TENS" "[J", Cond.constantLong RX1 26 (1000000), Cond.methodLink RX1 47 yX1_close, Cond.instanceMethod yX1_close, Cond.selects RX1 yX1_close yX1_close, Cond.code yX1_close cX1_close 4 none, Cond.methodLink RX1 54 yX1_shift, Cond.instanceMethod yX1_shift, Cond.selects RX1 yX1_shift yX1_shift, Cond.code yX1_shift cX1_shift 3 none, Cond.methodLink RX2 73 yX1_add, Cond.instanceMethod yX1_add, Cond.selects RX1 yX1_add yX1_add, Cond.code yX1_add cX1_add 8 none, Cond.methodLink RX1 38 Lib.Math.max.name, Cond.methodLink RX2 110 yX0_take, Cond.instanceMethod yX0_take, Cond.selects RX0 yX0_take yX0_take]
def wsX2_addUp_r3 : List Cond := [Cond.initialized RX0, Cond.code yX0_take cX0_take 4 none, Cond.fieldLink RX0 10 "DecimalRegisters$Decimal" "digits" "LDecimalRegisters$Natural;", Cond.fieldLink RX0 16 "DecimalRegisters$Decimal" "minus" "Z", Cond.fieldLink RX0 20 "DecimalRegisters$Decimal" "scale" "I", Cond.methodLink RX0 28 yX1_become, Cond.methodLink RX0 32 yX1_isZero, Cond.instanceMethod yX1_isZero, Cond.selects RX1 yX1_isZero yX1_isZero, Cond.code yX1_isZero cX1_isZero 1 (some .boolean), Cond.methodLink RX2 127 yX1_order, Cond.instanceMethod yX1_order, Cond.selects RX1 yX1_order yX1_order, Cond.code yX1_order cX1_order 3 (some .int), Cond.methodLink RX2 169 yX1_subtract, Cond.instanceMethod yX1_subtract, Cond.selects RX1 yX1_subtract yX1_subtract, Cond.code yX1_subtract cX1_subtract 7 none, Cond.methodLink RX1 51 yX1_shrink, Cond.instanceMethod yX1_shrink, Cond.selects RX1 yX1_shrink yX1_shrink, Cond.code yX1_shrink cX1_shrink 1 none]
def wsX2_addUp : List Cond := .code yX2_addUp cX2_addUp 5 none :: ((wsX2_addUp_r1 ++ (wsX2_addUp_r2 ++ wsX2_addUp_r3)) ++ wsX00 ++ wsX20 ++ wsX10)
def wsX2_multiply_r1 : List Cond := [Cond.fieldLink RX2 34 "DecimalRegisters" "top" "LDecimalRegisters$Natural;", Cond.fieldLink RX2 23 "DecimalRegisters$Decimal" "digits" "LDecimalRegisters$Natural;", Cond.fieldLink RX2 16 "DecimalRegisters" "result" "LDecimalRegisters$Decimal;", Cond.fieldLink RX2 52 "DecimalRegisters$Decimal" "minus" "Z", Cond.fieldLink RX2 56 "DecimalRegisters$Decimal" "scale" "I", Cond.methodLink RX2 172 yX1_becomeProduct, Cond.instanceMethod yX1_becomeProduct, Cond.selects RX1 yX1_becomeProduct yX1_becomeProduct, Cond.initialized RX1, Cond.code yX1_becomeProduct cX1_becomeProduct 9 none, Cond.fieldLink RX1 13 "DecimalRegisters$Natural" "size" "I", Cond.fieldLink RX1 9 "DecimalRegisters$Natural" "limbs" "[J", Cond.constantLong RX1 26 (1000000), Cond.methodLink RX1 23 yX1_clear, Cond.instanceMethod yX1_clear, Cond.selects RX1 yX1_clear yX1_clear, Cond.code yX1_clear cX1_clear 2 none, Cond.methodLink RX1 51 yX1_shrink, Cond.instanceMethod yX1_shrink, Cond.selects RX1 yX1_shrink yX1_shrink, Cond.code yX1_shrink cX1_shrink 1 none, Cond.methodLink RX2 110 yX0_take, Cond.instanceMethod yX0_take, Cond.selects RX0 yX0_take yX0_take]
def wsX2_multiply_r2 : List Cond := [Cond.initialized RX0, Cond.code yX0_take cX0_take 4 none, Cond.fieldLink RX0 10 "DecimalRegisters$Decimal" "digits" "LDecimalRegisters$Natural;", Cond.fieldLink RX0 16 "DecimalRegisters$Decimal" "minus" "Z", Cond.fieldLink RX0 20 "DecimalRegisters$Decimal" "scale" "I", Cond.methodLink RX0 28 yX1_become, Cond.instanceMethod yX1_become, Cond.selects RX1 yX1_become yX1_become, Cond.code yX1_become cX1_become 2 none, Cond.methodLink RX1 17 arraycopyName, Cond.native arraycopyName, Cond.static arraycopyName, Cond.initialized "java/lang/System", Cond.methodLink RX0 32 yX1_isZero, Cond.instanceMethod yX1_isZero, Cond.selects RX1 yX1_isZero yX1_isZero, Cond.code yX1_isZero cX1_isZero 1 (some .boolean)]
def wsX2_multiply : List Cond := .code yX2_multiply cX2_multiply 3 none :: ((wsX2_multiply_r1 ++ wsX2_multiply_r2) ++ wsX20 ++ wsX00 ++ wsX10)
def wsX2_order_r1 : List Cond := [Cond.fieldLink RX2 52 "DecimalRegisters$Decimal" "minus" "Z", Cond.fieldLink RX2 37 "DecimalRegisters" "bottom" "LDecimalRegisters$Natural;", Cond.fieldLink RX2 34 "DecimalRegisters" "top" "LDecimalRegisters$Natural;", Cond.methodLink RX2 130 yX0_sign, Cond.instanceMethod yX0_sign, Cond.selects RX0 yX0_sign yX0_sign, Cond.initialized RX0, Cond.code yX0_sign cX0_sign 1 (some .int), Cond.fieldLink RX0 10 "DecimalRegisters$Decimal" "digits" "LDecimalRegisters$Natural;", Cond.fieldLink RX0 16 "DecimalRegisters$Decimal" "minus" "Z", Cond.methodLink RX0 32 yX1_isZero, Cond.instanceMethod yX1_isZero, Cond.selects RX1 yX1_isZero yX1_isZero, Cond.initialized RX1, Cond.code yX1_isZero cX1_isZero 1 (some .boolean), Cond.fieldLink RX1 13 "DecimalRegisters$Natural" "size" "I", Cond.methodLink RX2 155 yX2_align, Cond.instanceMethod yX2_align, Cond.selects RX2 yX2_align yX2_align, Cond.initialized RX2, Cond.code yX2_align cX2_align 5 none, Cond.fieldLink RX2 56 "DecimalRegisters$Decimal" "scale" "I", Cond.fieldLink RX2 23 "DecimalRegisters$Decimal" "digits" "LDecimalRegisters$Natural;", Cond.methodLink RX2 153 yX1_become]
def wsX2_order_r2 : List Cond := [Cond.instanceMethod yX1_become, Cond.selects RX1 yX1_become yX1_become, Cond.code yX1_become cX1_become 2 none, Cond.fieldLink RX1 9 "DecimalRegisters$Natural" "limbs" "[J", Cond.methodLink RX1 17 arraycopyName, Cond.native arraycopyName, Cond.static arraycopyName, Cond.initialized "java/lang/System", Cond.methodLink RX2 67 yX1_raise, Cond.instanceMethod yX1_raise, Cond.selects RX1 yX1_raise yX1_raise, Cond.code yX1_raise cX1_raise 10 none, Cond.fieldLink RX1 42 "DecimalRegisters$Natural" "TENS" "[J", Cond.constantLong RX1 26 (1000000), Cond.methodLink RX1 47 yX1_close, Cond.instanceMethod yX1_close, Cond.selects RX1 yX1_close yX1_close, Cond.code yX1_close cX1_close 4 none, Cond.methodLink RX1 54 yX1_shift, Cond.instanceMethod yX1_shift, Cond.selects RX1 yX1_shift yX1_shift, Cond.code yX1_shift cX1_shift 3 none, Cond.methodLink RX2 127 yX1_order, Cond.instanceMethod yX1_order]
def wsX2_order_r3 : List Cond := [Cond.selects RX1 yX1_order yX1_order, Cond.code yX1_order cX1_order 3 (some .int)]
def wsX2_order : List Cond := .code yX2_order cX2_order 3 (some .int) :: ((wsX2_order_r1 ++ (wsX2_order_r2 ++ wsX2_order_r3)) ++ wsX00 ++ wsX20 ++ wsX10)
def wsX2_reckon_r1 : List Cond := [Cond.fieldLink RX2 11 "DecimalRegisters" "registers" "[LDecimalRegisters$Decimal;", Cond.fieldLink RX2 52 "DecimalRegisters$Decimal" "minus" "Z", Cond.fieldLink RX2 16 "DecimalRegisters" "result" "LDecimalRegisters$Decimal;", Cond.methodLink RX2 48 yX2_isRegister, Cond.static yX2_isRegister, Cond.initialized RX2, Cond.code yX2_isRegister cX2_isRegister 1 (some .boolean), Cond.methodLink RX2 77 yX2_addUp, Cond.instanceMethod yX2_addUp, Cond.selects RX2 yX2_addUp yX2_addUp, Cond.code yX2_addUp cX2_addUp 5 none, Cond.fieldLink RX2 56 "DecimalRegisters$Decimal" "scale" "I", Cond.methodLink RX2 100 Lib.Math.max.name, Cond.static Lib.Math.max.name, Cond.initialized "java/lang/Math", Cond.code Lib.Math.max.name Lib.Math.max.code 2 (some .int), Cond.fieldLink RX2 34 "DecimalRegisters" "top" "LDecimalRegisters$Natural;", Cond.fieldLink RX2 37 "DecimalRegisters" "bottom" "LDecimalRegisters$Natural;", Cond.methodLink RX2 155 yX2_align, Cond.instanceMethod yX2_align, Cond.selects RX2 yX2_align yX2_align, Cond.code yX2_align cX2_align 5 none, Cond.fieldLink RX2 23 "DecimalRegisters$Decimal" "digits" "LDecimalRegisters$Natural;", Cond.methodLink RX2 153 yX1_become]
def wsX2_reckon_r2 : List Cond := [Cond.instanceMethod yX1_become, Cond.selects RX1 yX1_become yX1_become, Cond.initialized RX1, Cond.code yX1_become cX1_become 2 none, Cond.fieldLink RX1 9 "DecimalRegisters$Natural" "limbs" "[J", Cond.methodLink RX1 17 arraycopyName, Cond.native arraycopyName, Cond.static arraycopyName, Cond.initialized "java/lang/System", Cond.fieldLink RX1 13 "DecimalRegisters$Natural" "size" "I", Cond.methodLink RX2 67 yX1_raise, Cond.instanceMethod yX1_raise, Cond.selects RX1 yX1_raise yX1_raise, Cond.code yX1_raise cX1_raise 10 none, Cond.fieldLink RX1 42 "DecimalRegisters$Natural" "TENS" "[J", Cond.constantLong RX1 26 (1000000), Cond.methodLink RX1 47 yX1_close, Cond.instanceMethod yX1_close, Cond.selects RX1 yX1_close yX1_close, Cond.code yX1_close cX1_close 4 none, Cond.methodLink RX1 54 yX1_shift, Cond.instanceMethod yX1_shift, Cond.selects RX1 yX1_shift yX1_shift, Cond.code yX1_shift cX1_shift 3 none]
def wsX2_reckon_r3 : List Cond := [Cond.methodLink RX2 73 yX1_add, Cond.instanceMethod yX1_add, Cond.selects RX1 yX1_add yX1_add, Cond.code yX1_add cX1_add 8 none, Cond.methodLink RX1 38 Lib.Math.max.name, Cond.methodLink RX2 110 yX0_take, Cond.instanceMethod yX0_take, Cond.selects RX0 yX0_take yX0_take, Cond.initialized RX0, Cond.code yX0_take cX0_take 4 none, Cond.fieldLink RX0 10 "DecimalRegisters$Decimal" "digits" "LDecimalRegisters$Natural;", Cond.fieldLink RX0 16 "DecimalRegisters$Decimal" "minus" "Z", Cond.fieldLink RX0 20 "DecimalRegisters$Decimal" "scale" "I", Cond.methodLink RX0 28 yX1_become, Cond.methodLink RX0 32 yX1_isZero, Cond.instanceMethod yX1_isZero, Cond.selects RX1 yX1_isZero yX1_isZero, Cond.code yX1_isZero cX1_isZero 1 (some .boolean), Cond.methodLink RX2 127 yX1_order, Cond.instanceMethod yX1_order, Cond.selects RX1 yX1_order yX1_order, Cond.code yX1_order cX1_order 3 (some .int), Cond.methodLink RX2 169 yX1_subtract, Cond.instanceMethod yX1_subtract]
def wsX2_reckon_r4 : List Cond := [Cond.selects RX1 yX1_subtract yX1_subtract, Cond.code yX1_subtract cX1_subtract 7 none, Cond.methodLink RX1 51 yX1_shrink, Cond.instanceMethod yX1_shrink, Cond.selects RX1 yX1_shrink yX1_shrink, Cond.code yX1_shrink cX1_shrink 1 none, Cond.methodLink RX2 81 yX2_multiply, Cond.instanceMethod yX2_multiply, Cond.selects RX2 yX2_multiply yX2_multiply, Cond.code yX2_multiply cX2_multiply 3 none, Cond.methodLink RX2 172 yX1_becomeProduct, Cond.instanceMethod yX1_becomeProduct, Cond.selects RX1 yX1_becomeProduct yX1_becomeProduct, Cond.code yX1_becomeProduct cX1_becomeProduct 9 none, Cond.methodLink RX1 23 yX1_clear, Cond.instanceMethod yX1_clear, Cond.selects RX1 yX1_clear yX1_clear, Cond.code yX1_clear cX1_clear 2 none, Cond.methodLink RX2 85 yX2_order, Cond.instanceMethod yX2_order, Cond.selects RX2 yX2_order yX2_order, Cond.code yX2_order cX2_order 3 (some .int), Cond.methodLink RX2 130 yX0_sign, Cond.instanceMethod yX0_sign]
def wsX2_reckon_r5 : List Cond := [Cond.selects RX0 yX0_sign yX0_sign, Cond.code yX0_sign cX0_sign 1 (some .int), Cond.methodLink RX2 63 yX0_become, Cond.instanceMethod yX0_become, Cond.selects RX0 yX0_become yX0_become, Cond.code yX0_become cX0_become 2 none, Cond.methodLink RX0 24 yX0_take, Cond.methodLink RX2 59 yX2_keep, Cond.instanceMethod yX2_keep, Cond.selects RX2 yX2_keep yX2_keep, Cond.code yX2_keep cX2_keep 3 (some .int), Cond.methodLink RX2 114 yX1_precision, Cond.instanceMethod yX1_precision, Cond.selects RX1 yX1_precision yX1_precision, Cond.code yX1_precision cX1_precision 2 (some .int), Cond.methodLink RX1 34 yX1_figure, Cond.instanceMethod yX1_figure, Cond.selects RX1 yX1_figure yX1_figure, Cond.code yX1_figure cX1_figure 3 (some .int), Cond.constantLong RX1 45 (10), Cond.methodLink RX2 150 yX2_isScale, Cond.static yX2_isScale, Cond.code yX2_isScale cX2_isScale 1 (some .boolean)]
def wsX2_reckon : List Cond := .code yX2_reckon cX2_reckon 7 (some .int) :: ((wsX2_reckon_r1 ++ (wsX2_reckon_r2 ++ (wsX2_reckon_r3 ++ (wsX2_reckon_r4 ++ wsX2_reckon_r5)))) ++ wsX20 ++ wsX00 ++ wsX10)
def wsX2_isWay : List Cond := .code yX2_isWay cX2_isWay 1 (some .boolean) :: ([])
def wsX2_split_r1 : List Cond := [Cond.fieldLink RX2 34 "DecimalRegisters" "top" "LDecimalRegisters$Natural;", Cond.fieldLink RX2 37 "DecimalRegisters" "bottom" "LDecimalRegisters$Natural;", Cond.fieldLink RX2 16 "DecimalRegisters" "result" "LDecimalRegisters$Decimal;", Cond.fieldLink RX2 23 "DecimalRegisters$Decimal" "digits" "LDecimalRegisters$Natural;", Cond.fieldLink RX2 52 "DecimalRegisters$Decimal" "minus" "Z", Cond.fieldLink RX2 56 "DecimalRegisters$Decimal" "scale" "I", Cond.methodLink RX2 155 yX2_align, Cond.instanceMethod yX2_align, Cond.selects RX2 yX2_align yX2_align, Cond.initialized RX2, Cond.code yX2_align cX2_align 5 none, Cond.methodLink RX2 153 yX1_become, Cond.instanceMethod yX1_become, Cond.selects RX1 yX1_become yX1_become, Cond.initialized RX1, Cond.code yX1_become cX1_become 2 none, Cond.fieldLink RX1 9 "DecimalRegisters$Natural" "limbs" "[J", Cond.methodLink RX1 17 arraycopyName, Cond.native arraycopyName, Cond.static arraycopyName, Cond.initialized "java/lang/System", Cond.fieldLink RX1 13 "DecimalRegisters$Natural" "size" "I", Cond.methodLink RX2 67 yX1_raise, Cond.instanceMethod yX1_raise]
def wsX2_split_r2 : List Cond := [Cond.selects RX1 yX1_raise yX1_raise, Cond.code yX1_raise cX1_raise 10 none, Cond.fieldLink RX1 42 "DecimalRegisters$Natural" "TENS" "[J", Cond.constantLong RX1 26 (1000000), Cond.methodLink RX1 47 yX1_close, Cond.instanceMethod yX1_close, Cond.selects RX1 yX1_close yX1_close, Cond.code yX1_close cX1_close 4 none, Cond.methodLink RX1 54 yX1_shift, Cond.instanceMethod yX1_shift, Cond.selects RX1 yX1_shift yX1_shift, Cond.code yX1_shift cX1_shift 3 none, Cond.methodLink RX2 158 yX1_takeOut, Cond.instanceMethod yX1_takeOut, Cond.selects RX1 yX1_takeOut yX1_takeOut, Cond.code yX1_takeOut cX1_takeOut 7 none, Cond.constantLong RX1 66 (-1), Cond.methodLink RX1 23 yX1_clear, Cond.instanceMethod yX1_clear, Cond.selects RX1 yX1_clear yX1_clear, Cond.code yX1_clear cX1_clear 2 none, Cond.methodLink RX1 58 yX1_guess, Cond.instanceMethod yX1_guess, Cond.selects RX1 yX1_guess yX1_guess]
def wsX2_split_r3 : List Cond := [Cond.code yX1_guess cX1_guess 8 (some .long), Cond.methodLink RX1 62 yX1_takeAway, Cond.instanceMethod yX1_takeAway, Cond.selects RX1 yX1_takeAway yX1_takeAway, Cond.code yX1_takeAway cX1_takeAway 10 none, Cond.methodLink RX1 68 yJ9_floorDiv_f86c9, Cond.static yJ9_floorDiv_f86c9, Cond.initialized RJ9, Cond.code yJ9_floorDiv_f86c9 cJ9_floorDiv_f86c9 6 (some .long), Cond.methodLink RX1 51 yX1_shrink, Cond.instanceMethod yX1_shrink, Cond.selects RX1 yX1_shrink yX1_shrink, Cond.code yX1_shrink cX1_shrink 1 none]
def wsX2_split : List Cond := .code yX2_split cX2_split 4 none :: ((wsX2_split_r1 ++ (wsX2_split_r2 ++ wsX2_split_r3)) ++ wsX20 ++ wsX00 ++ wsX10)
def wsX2_isAwayFromZero : List Cond := .code yX2_isAwayFromZero cX2_isAwayFromZero 3 (some .boolean) :: ([.fieldLink RX2 16 "DecimalRegisters" "result" "LDecimalRegisters$Decimal;", .fieldLink RX2 52 "DecimalRegisters$Decimal" "minus" "Z", .fieldLink RX2 23 "DecimalRegisters$Decimal" "digits" "LDecimalRegisters$Natural;", .methodLink RX2 133 yX1_figure, .instanceMethod yX1_figure, .selects RX1 yX1_figure yX1_figure, .initialized RX1, .code yX1_figure cX1_figure 3 (some .int), .fieldLink RX1 13 "DecimalRegisters$Natural" "size" "I", .fieldLink RX1 9 "DecimalRegisters$Natural" "limbs" "[J", .fieldLink RX1 42 "DecimalRegisters$Natural" "TENS" "[J", .constantLong RX1 45 (10)] ++ wsX20 ++ wsX00 ++ wsX10)
def wsX2_settle_r1 : List Cond := [Cond.fieldLink RX2 34 "DecimalRegisters" "top" "LDecimalRegisters$Natural;", Cond.fieldLink RX2 37 "DecimalRegisters" "bottom" "LDecimalRegisters$Natural;", Cond.fieldLink RX2 16 "DecimalRegisters" "result" "LDecimalRegisters$Decimal;", Cond.fieldLink RX2 23 "DecimalRegisters$Decimal" "digits" "LDecimalRegisters$Natural;", Cond.fieldLink RX2 20 "DecimalRegisters" "one" "LDecimalRegisters$Decimal;", Cond.methodLink RX2 92 yX1_isZero, Cond.instanceMethod yX1_isZero, Cond.selects RX1 yX1_isZero yX1_isZero, Cond.initialized RX1, Cond.code yX1_isZero cX1_isZero 1 (some .boolean), Cond.fieldLink RX1 13 "DecimalRegisters$Natural" "size" "I", Cond.methodLink RX2 73 yX1_add, Cond.instanceMethod yX1_add, Cond.selects RX1 yX1_add yX1_add, Cond.code yX1_add cX1_add 8 none, Cond.methodLink RX1 38 Lib.Math.max.name, Cond.static Lib.Math.max.name, Cond.initialized "java/lang/Math", Cond.code Lib.Math.max.name Lib.Math.max.code 2 (some .int), Cond.fieldLink RX1 9 "DecimalRegisters$Natural" "limbs" "[J", Cond.constantLong RX1 26 (1000000), Cond.methodLink RX1 47 yX1_close, Cond.instanceMethod yX1_close, Cond.selects RX1 yX1_close yX1_close]
def wsX2_settle_r2 : List Cond := [Cond.code yX1_close cX1_close 4 none, Cond.methodLink RX2 127 yX1_order, Cond.instanceMethod yX1_order, Cond.selects RX1 yX1_order yX1_order, Cond.code yX1_order cX1_order 3 (some .int), Cond.methodLink RX2 162 yX2_isAwayFromZero, Cond.instanceMethod yX2_isAwayFromZero, Cond.selects RX2 yX2_isAwayFromZero yX2_isAwayFromZero, Cond.initialized RX2, Cond.code yX2_isAwayFromZero cX2_isAwayFromZero 3 (some .boolean), Cond.fieldLink RX2 52 "DecimalRegisters$Decimal" "minus" "Z", Cond.methodLink RX2 133 yX1_figure, Cond.instanceMethod yX1_figure, Cond.selects RX1 yX1_figure yX1_figure, Cond.code yX1_figure cX1_figure 3 (some .int), Cond.fieldLink RX1 42 "DecimalRegisters$Natural" "TENS" "[J", Cond.constantLong RX1 45 (10)]
def wsX2_settle : List Cond := .code yX2_settle cX2_settle 2 (some .boolean) :: ((wsX2_settle_r1 ++ wsX2_settle_r2) ++ wsX20 ++ wsX00 ++ wsX10)
def wsX2_keepQuotient_r1 : List Cond := [Cond.methodLink RX2 150 yX2_isScale, Cond.static yX2_isScale, Cond.initialized RX2, Cond.code yX2_isScale cX2_isScale 1 (some .boolean), Cond.methodLink RX2 106 yX2_split, Cond.instanceMethod yX2_split, Cond.selects RX2 yX2_split yX2_split, Cond.code yX2_split cX2_split 4 none, Cond.fieldLink RX2 34 "DecimalRegisters" "top" "LDecimalRegisters$Natural;", Cond.fieldLink RX2 37 "DecimalRegisters" "bottom" "LDecimalRegisters$Natural;", Cond.fieldLink RX2 16 "DecimalRegisters" "result" "LDecimalRegisters$Decimal;", Cond.fieldLink RX2 23 "DecimalRegisters$Decimal" "digits" "LDecimalRegisters$Natural;", Cond.fieldLink RX2 52 "DecimalRegisters$Decimal" "minus" "Z", Cond.fieldLink RX2 56 "DecimalRegisters$Decimal" "scale" "I", Cond.methodLink RX2 155 yX2_align, Cond.instanceMethod yX2_align, Cond.selects RX2 yX2_align yX2_align, Cond.code yX2_align cX2_align 5 none, Cond.methodLink RX2 153 yX1_become, Cond.instanceMethod yX1_become, Cond.selects RX1 yX1_become yX1_become, Cond.initialized RX1, Cond.code yX1_become cX1_become 2 none, Cond.fieldLink RX1 9 "DecimalRegisters$Natural" "limbs" "[J"]
def wsX2_keepQuotient_r2 : List Cond := [Cond.methodLink RX1 17 arraycopyName, Cond.native arraycopyName, Cond.static arraycopyName, Cond.initialized "java/lang/System", Cond.fieldLink RX1 13 "DecimalRegisters$Natural" "size" "I", Cond.methodLink RX2 67 yX1_raise, Cond.instanceMethod yX1_raise, Cond.selects RX1 yX1_raise yX1_raise, Cond.code yX1_raise cX1_raise 10 none, Cond.fieldLink RX1 42 "DecimalRegisters$Natural" "TENS" "[J", Cond.constantLong RX1 26 (1000000), Cond.methodLink RX1 47 yX1_close, Cond.instanceMethod yX1_close, Cond.selects RX1 yX1_close yX1_close, Cond.code yX1_close cX1_close 4 none, Cond.methodLink RX1 54 yX1_shift, Cond.instanceMethod yX1_shift, Cond.selects RX1 yX1_shift yX1_shift, Cond.code yX1_shift cX1_shift 3 none, Cond.methodLink RX2 158 yX1_takeOut, Cond.instanceMethod yX1_takeOut, Cond.selects RX1 yX1_takeOut yX1_takeOut, Cond.code yX1_takeOut cX1_takeOut 7 none, Cond.constantLong RX1 66 (-1)]
def wsX2_keepQuotient_r3 : List Cond := [Cond.methodLink RX1 23 yX1_clear, Cond.instanceMethod yX1_clear, Cond.selects RX1 yX1_clear yX1_clear, Cond.code yX1_clear cX1_clear 2 none, Cond.methodLink RX1 58 yX1_guess, Cond.instanceMethod yX1_guess, Cond.selects RX1 yX1_guess yX1_guess, Cond.code yX1_guess cX1_guess 8 (some .long), Cond.methodLink RX1 62 yX1_takeAway, Cond.instanceMethod yX1_takeAway, Cond.selects RX1 yX1_takeAway yX1_takeAway, Cond.code yX1_takeAway cX1_takeAway 10 none, Cond.methodLink RX1 68 yJ9_floorDiv_f86c9, Cond.static yJ9_floorDiv_f86c9, Cond.initialized RJ9, Cond.code yJ9_floorDiv_f86c9 cJ9_floorDiv_f86c9 6 (some .long), Cond.methodLink RX1 51 yX1_shrink, Cond.instanceMethod yX1_shrink, Cond.selects RX1 yX1_shrink yX1_shrink, Cond.code yX1_shrink cX1_shrink 1 none, Cond.methodLink RX2 121 yX2_settle, Cond.instanceMethod yX2_settle, Cond.selects RX2 yX2_settle yX2_settle, Cond.code yX2_settle cX2_settle 2 (some .boolean)]
def wsX2_keepQuotient_r4 : List Cond := [Cond.fieldLink RX2 20 "DecimalRegisters" "one" "LDecimalRegisters$Decimal;", Cond.methodLink RX2 92 yX1_isZero, Cond.instanceMethod yX1_isZero, Cond.selects RX1 yX1_isZero yX1_isZero, Cond.code yX1_isZero cX1_isZero 1 (some .boolean), Cond.methodLink RX2 73 yX1_add, Cond.instanceMethod yX1_add, Cond.selects RX1 yX1_add yX1_add, Cond.code yX1_add cX1_add 8 none, Cond.methodLink RX1 38 Lib.Math.max.name, Cond.static Lib.Math.max.name, Cond.initialized "java/lang/Math", Cond.code Lib.Math.max.name Lib.Math.max.code 2 (some .int), Cond.methodLink RX2 127 yX1_order, Cond.instanceMethod yX1_order, Cond.selects RX1 yX1_order yX1_order, Cond.code yX1_order cX1_order 3 (some .int), Cond.methodLink RX2 162 yX2_isAwayFromZero, Cond.instanceMethod yX2_isAwayFromZero, Cond.selects RX2 yX2_isAwayFromZero yX2_isAwayFromZero, Cond.code yX2_isAwayFromZero cX2_isAwayFromZero 3 (some .boolean), Cond.methodLink RX2 133 yX1_figure, Cond.instanceMethod yX1_figure, Cond.selects RX1 yX1_figure yX1_figure]
def wsX2_keepQuotient_r5 : List Cond := [Cond.code yX1_figure cX1_figure 3 (some .int), Cond.constantLong RX1 45 (10), Cond.methodLink RX2 59 yX2_keep, Cond.instanceMethod yX2_keep, Cond.selects RX2 yX2_keep yX2_keep, Cond.code yX2_keep cX2_keep 3 (some .int), Cond.fieldLink RX2 11 "DecimalRegisters" "registers" "[LDecimalRegisters$Decimal;", Cond.methodLink RX2 114 yX1_precision, Cond.instanceMethod yX1_precision, Cond.selects RX1 yX1_precision yX1_precision, Cond.code yX1_precision cX1_precision 2 (some .int), Cond.methodLink RX1 34 yX1_figure, Cond.methodLink RX2 63 yX0_become, Cond.instanceMethod yX0_become, Cond.selects RX0 yX0_become yX0_become, Cond.initialized RX0, Cond.code yX0_become cX0_become 2 none, Cond.fieldLink RX0 10 "DecimalRegisters$Decimal" "digits" "LDecimalRegisters$Natural;", Cond.fieldLink RX0 16 "DecimalRegisters$Decimal" "minus" "Z", Cond.fieldLink RX0 20 "DecimalRegisters$Decimal" "scale" "I", Cond.methodLink RX0 24 yX0_take, Cond.instanceMethod yX0_take, Cond.selects RX0 yX0_take yX0_take, Cond.code yX0_take cX0_take 4 none]
def wsX2_keepQuotient_r6 : List Cond := [Cond.methodLink RX0 28 yX1_become, Cond.methodLink RX0 32 yX1_isZero]
def wsX2_keepQuotient : List Cond := .code yX2_keepQuotient cX2_keepQuotient 6 (some .int) :: ((wsX2_keepQuotient_r1 ++ (wsX2_keepQuotient_r2 ++ (wsX2_keepQuotient_r3 ++ (wsX2_keepQuotient_r4 ++ (wsX2_keepQuotient_r5 ++ wsX2_keepQuotient_r6))))) ++ wsX20 ++ wsX00 ++ wsX10)
def wsX2_divide_r1 : List Cond := [Cond.fieldLink RX2 11 "DecimalRegisters" "registers" "[LDecimalRegisters$Decimal;", Cond.fieldLink RX2 23 "DecimalRegisters$Decimal" "digits" "LDecimalRegisters$Natural;", Cond.methodLink RX2 48 yX2_isRegister, Cond.static yX2_isRegister, Cond.initialized RX2, Cond.code yX2_isRegister cX2_isRegister 1 (some .boolean), Cond.methodLink RX2 89 yX2_isWay, Cond.static yX2_isWay, Cond.code yX2_isWay cX2_isWay 1 (some .boolean), Cond.methodLink RX2 92 yX1_isZero, Cond.instanceMethod yX1_isZero, Cond.selects RX1 yX1_isZero yX1_isZero, Cond.initialized RX1, Cond.code yX1_isZero cX1_isZero 1 (some .boolean), Cond.fieldLink RX1 13 "DecimalRegisters$Natural" "size" "I", Cond.methodLink RX2 96 yX2_keepQuotient, Cond.instanceMethod yX2_keepQuotient, Cond.selects RX2 yX2_keepQuotient yX2_keepQuotient, Cond.code yX2_keepQuotient cX2_keepQuotient 6 (some .int), Cond.methodLink RX2 150 yX2_isScale, Cond.static yX2_isScale, Cond.code yX2_isScale cX2_isScale 1 (some .boolean), Cond.methodLink RX2 106 yX2_split, Cond.instanceMethod yX2_split]
def wsX2_divide_r2 : List Cond := [Cond.selects RX2 yX2_split yX2_split, Cond.code yX2_split cX2_split 4 none, Cond.fieldLink RX2 34 "DecimalRegisters" "top" "LDecimalRegisters$Natural;", Cond.fieldLink RX2 37 "DecimalRegisters" "bottom" "LDecimalRegisters$Natural;", Cond.fieldLink RX2 16 "DecimalRegisters" "result" "LDecimalRegisters$Decimal;", Cond.fieldLink RX2 52 "DecimalRegisters$Decimal" "minus" "Z", Cond.fieldLink RX2 56 "DecimalRegisters$Decimal" "scale" "I", Cond.methodLink RX2 155 yX2_align, Cond.instanceMethod yX2_align, Cond.selects RX2 yX2_align yX2_align, Cond.code yX2_align cX2_align 5 none, Cond.methodLink RX2 153 yX1_become, Cond.instanceMethod yX1_become, Cond.selects RX1 yX1_become yX1_become, Cond.code yX1_become cX1_become 2 none, Cond.fieldLink RX1 9 "DecimalRegisters$Natural" "limbs" "[J", Cond.methodLink RX1 17 arraycopyName, Cond.native arraycopyName, Cond.static arraycopyName, Cond.initialized "java/lang/System", Cond.methodLink RX2 67 yX1_raise, Cond.instanceMethod yX1_raise, Cond.selects RX1 yX1_raise yX1_raise, Cond.code yX1_raise cX1_raise 10 none]
def wsX2_divide_r3 : List Cond := [Cond.fieldLink RX1 42 "DecimalRegisters$Natural" "TENS" "[J", Cond.constantLong RX1 26 (1000000), Cond.methodLink RX1 47 yX1_close, Cond.instanceMethod yX1_close, Cond.selects RX1 yX1_close yX1_close, Cond.code yX1_close cX1_close 4 none, Cond.methodLink RX1 54 yX1_shift, Cond.instanceMethod yX1_shift, Cond.selects RX1 yX1_shift yX1_shift, Cond.code yX1_shift cX1_shift 3 none, Cond.methodLink RX2 158 yX1_takeOut, Cond.instanceMethod yX1_takeOut, Cond.selects RX1 yX1_takeOut yX1_takeOut, Cond.code yX1_takeOut cX1_takeOut 7 none, Cond.constantLong RX1 66 (-1), Cond.methodLink RX1 23 yX1_clear, Cond.instanceMethod yX1_clear, Cond.selects RX1 yX1_clear yX1_clear, Cond.code yX1_clear cX1_clear 2 none, Cond.methodLink RX1 58 yX1_guess, Cond.instanceMethod yX1_guess, Cond.selects RX1 yX1_guess yX1_guess, Cond.code yX1_guess cX1_guess 8 (some .long), Cond.methodLink RX1 62 yX1_takeAway]
def wsX2_divide_r4 : List Cond := [Cond.instanceMethod yX1_takeAway, Cond.selects RX1 yX1_takeAway yX1_takeAway, Cond.code yX1_takeAway cX1_takeAway 10 none, Cond.methodLink RX1 68 yJ9_floorDiv_f86c9, Cond.static yJ9_floorDiv_f86c9, Cond.initialized RJ9, Cond.code yJ9_floorDiv_f86c9 cJ9_floorDiv_f86c9 6 (some .long), Cond.methodLink RX1 51 yX1_shrink, Cond.instanceMethod yX1_shrink, Cond.selects RX1 yX1_shrink yX1_shrink, Cond.code yX1_shrink cX1_shrink 1 none, Cond.methodLink RX2 121 yX2_settle, Cond.instanceMethod yX2_settle, Cond.selects RX2 yX2_settle yX2_settle, Cond.code yX2_settle cX2_settle 2 (some .boolean), Cond.fieldLink RX2 20 "DecimalRegisters" "one" "LDecimalRegisters$Decimal;", Cond.methodLink RX2 73 yX1_add, Cond.instanceMethod yX1_add, Cond.selects RX1 yX1_add yX1_add, Cond.code yX1_add cX1_add 8 none, Cond.methodLink RX1 38 Lib.Math.max.name, Cond.static Lib.Math.max.name, Cond.initialized "java/lang/Math", Cond.code Lib.Math.max.name Lib.Math.max.code 2 (some .int)]
def wsX2_divide_r5 : List Cond := [Cond.methodLink RX2 127 yX1_order, Cond.instanceMethod yX1_order, Cond.selects RX1 yX1_order yX1_order, Cond.code yX1_order cX1_order 3 (some .int), Cond.methodLink RX2 162 yX2_isAwayFromZero, Cond.instanceMethod yX2_isAwayFromZero, Cond.selects RX2 yX2_isAwayFromZero yX2_isAwayFromZero, Cond.code yX2_isAwayFromZero cX2_isAwayFromZero 3 (some .boolean), Cond.methodLink RX2 133 yX1_figure, Cond.instanceMethod yX1_figure, Cond.selects RX1 yX1_figure yX1_figure, Cond.code yX1_figure cX1_figure 3 (some .int), Cond.constantLong RX1 45 (10), Cond.methodLink RX2 59 yX2_keep, Cond.instanceMethod yX2_keep, Cond.selects RX2 yX2_keep yX2_keep, Cond.code yX2_keep cX2_keep 3 (some .int), Cond.methodLink RX2 114 yX1_precision, Cond.instanceMethod yX1_precision, Cond.selects RX1 yX1_precision yX1_precision, Cond.code yX1_precision cX1_precision 2 (some .int), Cond.methodLink RX1 34 yX1_figure, Cond.methodLink RX2 63 yX0_become, Cond.instanceMethod yX0_become]
def wsX2_divide_r6 : List Cond := [Cond.selects RX0 yX0_become yX0_become, Cond.initialized RX0, Cond.code yX0_become cX0_become 2 none, Cond.fieldLink RX0 10 "DecimalRegisters$Decimal" "digits" "LDecimalRegisters$Natural;", Cond.fieldLink RX0 16 "DecimalRegisters$Decimal" "minus" "Z", Cond.fieldLink RX0 20 "DecimalRegisters$Decimal" "scale" "I", Cond.methodLink RX0 24 yX0_take, Cond.instanceMethod yX0_take, Cond.selects RX0 yX0_take yX0_take, Cond.code yX0_take cX0_take 4 none, Cond.methodLink RX0 28 yX1_become, Cond.methodLink RX0 32 yX1_isZero]
def wsX2_divide : List Cond := .code yX2_divide cX2_divide 6 (some .int) :: ((wsX2_divide_r1 ++ (wsX2_divide_r2 ++ (wsX2_divide_r3 ++ (wsX2_divide_r4 ++ (wsX2_divide_r5 ++ wsX2_divide_r6))))) ++ wsX20 ++ wsX00 ++ wsX10)
def wsX2_part_r1 : List Cond := [Cond.fieldLink RX2 11 "DecimalRegisters" "registers" "[LDecimalRegisters$Decimal;", Cond.fieldLink RX2 23 "DecimalRegisters$Decimal" "digits" "LDecimalRegisters$Natural;", Cond.fieldLink RX2 52 "DecimalRegisters$Decimal" "minus" "Z", Cond.fieldLink RX2 56 "DecimalRegisters$Decimal" "scale" "I", Cond.methodLink RX2 100 Lib.Math.max.name, Cond.static Lib.Math.max.name, Cond.initialized "java/lang/Math", Cond.code Lib.Math.max.name Lib.Math.max.code 2 (some .int), Cond.fieldLink RX2 34 "DecimalRegisters" "top" "LDecimalRegisters$Natural;", Cond.methodLink RX2 48 yX2_isRegister, Cond.static yX2_isRegister, Cond.initialized RX2, Cond.code yX2_isRegister cX2_isRegister 1 (some .boolean), Cond.methodLink RX2 92 yX1_isZero, Cond.instanceMethod yX1_isZero, Cond.selects RX1 yX1_isZero yX1_isZero, Cond.initialized RX1, Cond.code yX1_isZero cX1_isZero 1 (some .boolean), Cond.fieldLink RX1 13 "DecimalRegisters$Natural" "size" "I", Cond.methodLink RX2 106 yX2_split, Cond.instanceMethod yX2_split, Cond.selects RX2 yX2_split yX2_split, Cond.code yX2_split cX2_split 4 none, Cond.fieldLink RX2 37 "DecimalRegisters" "bottom" "LDecimalRegisters$Natural;"]
def wsX2_part_r2 : List Cond := [Cond.fieldLink RX2 16 "DecimalRegisters" "result" "LDecimalRegisters$Decimal;", Cond.methodLink RX2 155 yX2_align, Cond.instanceMethod yX2_align, Cond.selects RX2 yX2_align yX2_align, Cond.code yX2_align cX2_align 5 none, Cond.methodLink RX2 153 yX1_become, Cond.instanceMethod yX1_become, Cond.selects RX1 yX1_become yX1_become, Cond.code yX1_become cX1_become 2 none, Cond.fieldLink RX1 9 "DecimalRegisters$Natural" "limbs" "[J", Cond.methodLink RX1 17 arraycopyName, Cond.native arraycopyName, Cond.static arraycopyName, Cond.initialized "java/lang/System", Cond.methodLink RX2 67 yX1_raise, Cond.instanceMethod yX1_raise, Cond.selects RX1 yX1_raise yX1_raise, Cond.code yX1_raise cX1_raise 10 none, Cond.fieldLink RX1 42 "DecimalRegisters$Natural" "TENS" "[J", Cond.constantLong RX1 26 (1000000), Cond.methodLink RX1 47 yX1_close, Cond.instanceMethod yX1_close, Cond.selects RX1 yX1_close yX1_close, Cond.code yX1_close cX1_close 4 none]
def wsX2_part_r3 : List Cond := [Cond.methodLink RX1 54 yX1_shift, Cond.instanceMethod yX1_shift, Cond.selects RX1 yX1_shift yX1_shift, Cond.code yX1_shift cX1_shift 3 none, Cond.methodLink RX2 158 yX1_takeOut, Cond.instanceMethod yX1_takeOut, Cond.selects RX1 yX1_takeOut yX1_takeOut, Cond.code yX1_takeOut cX1_takeOut 7 none, Cond.constantLong RX1 66 (-1), Cond.methodLink RX1 23 yX1_clear, Cond.instanceMethod yX1_clear, Cond.selects RX1 yX1_clear yX1_clear, Cond.code yX1_clear cX1_clear 2 none, Cond.methodLink RX1 58 yX1_guess, Cond.instanceMethod yX1_guess, Cond.selects RX1 yX1_guess yX1_guess, Cond.code yX1_guess cX1_guess 8 (some .long), Cond.methodLink RX1 62 yX1_takeAway, Cond.instanceMethod yX1_takeAway, Cond.selects RX1 yX1_takeAway yX1_takeAway, Cond.code yX1_takeAway cX1_takeAway 10 none, Cond.methodLink RX1 68 yJ9_floorDiv_f86c9, Cond.static yJ9_floorDiv_f86c9, Cond.initialized RJ9]
def wsX2_part_r4 : List Cond := [Cond.code yJ9_floorDiv_f86c9 cJ9_floorDiv_f86c9 6 (some .long), Cond.methodLink RX1 51 yX1_shrink, Cond.instanceMethod yX1_shrink, Cond.selects RX1 yX1_shrink yX1_shrink, Cond.code yX1_shrink cX1_shrink 1 none, Cond.methodLink RX2 59 yX2_keep, Cond.instanceMethod yX2_keep, Cond.selects RX2 yX2_keep yX2_keep, Cond.code yX2_keep cX2_keep 3 (some .int), Cond.methodLink RX2 114 yX1_precision, Cond.instanceMethod yX1_precision, Cond.selects RX1 yX1_precision yX1_precision, Cond.code yX1_precision cX1_precision 2 (some .int), Cond.methodLink RX1 38 Lib.Math.max.name, Cond.methodLink RX1 34 yX1_figure, Cond.instanceMethod yX1_figure, Cond.selects RX1 yX1_figure yX1_figure, Cond.code yX1_figure cX1_figure 3 (some .int), Cond.constantLong RX1 45 (10), Cond.methodLink RX2 150 yX2_isScale, Cond.static yX2_isScale, Cond.code yX2_isScale cX2_isScale 1 (some .boolean), Cond.methodLink RX2 63 yX0_become, Cond.instanceMethod yX0_become]
def wsX2_part_r5 : List Cond := [Cond.selects RX0 yX0_become yX0_become, Cond.initialized RX0, Cond.code yX0_become cX0_become 2 none, Cond.fieldLink RX0 10 "DecimalRegisters$Decimal" "digits" "LDecimalRegisters$Natural;", Cond.fieldLink RX0 16 "DecimalRegisters$Decimal" "minus" "Z", Cond.fieldLink RX0 20 "DecimalRegisters$Decimal" "scale" "I", Cond.methodLink RX0 24 yX0_take, Cond.instanceMethod yX0_take, Cond.selects RX0 yX0_take yX0_take, Cond.code yX0_take cX0_take 4 none, Cond.methodLink RX0 28 yX1_become, Cond.methodLink RX0 32 yX1_isZero, Cond.methodLink RX2 110 yX0_take]
def wsX2_part : List Cond := .code yX2_part cX2_part 10 (some .int) :: ((wsX2_part_r1 ++ (wsX2_part_r2 ++ (wsX2_part_r3 ++ (wsX2_part_r4 ++ wsX2_part_r5)))) ++ wsX20 ++ wsX00 ++ wsX10)
def wsX2_scale_r1 : List Cond := [Cond.fieldLink RX2 11 "DecimalRegisters" "registers" "[LDecimalRegisters$Decimal;", Cond.fieldLink RX2 20 "DecimalRegisters" "one" "LDecimalRegisters$Decimal;", Cond.methodLink RX2 48 yX2_isRegister, Cond.static yX2_isRegister, Cond.initialized RX2, Cond.code yX2_isRegister cX2_isRegister 1 (some .boolean), Cond.methodLink RX2 89 yX2_isWay, Cond.static yX2_isWay, Cond.code yX2_isWay cX2_isWay 1 (some .boolean), Cond.methodLink RX2 96 yX2_keepQuotient, Cond.instanceMethod yX2_keepQuotient, Cond.selects RX2 yX2_keepQuotient yX2_keepQuotient, Cond.code yX2_keepQuotient cX2_keepQuotient 6 (some .int), Cond.methodLink RX2 150 yX2_isScale, Cond.static yX2_isScale, Cond.code yX2_isScale cX2_isScale 1 (some .boolean), Cond.methodLink RX2 106 yX2_split, Cond.instanceMethod yX2_split, Cond.selects RX2 yX2_split yX2_split, Cond.code yX2_split cX2_split 4 none, Cond.fieldLink RX2 34 "DecimalRegisters" "top" "LDecimalRegisters$Natural;", Cond.fieldLink RX2 37 "DecimalRegisters" "bottom" "LDecimalRegisters$Natural;", Cond.fieldLink RX2 16 "DecimalRegisters" "result" "LDecimalRegisters$Decimal;", Cond.fieldLink RX2 23 "DecimalRegisters$Decimal" "digits" "LDecimalRegisters$Natural;"]
def wsX2_scale_r2 : List Cond := [Cond.fieldLink RX2 52 "DecimalRegisters$Decimal" "minus" "Z", Cond.fieldLink RX2 56 "DecimalRegisters$Decimal" "scale" "I", Cond.methodLink RX2 155 yX2_align, Cond.instanceMethod yX2_align, Cond.selects RX2 yX2_align yX2_align, Cond.code yX2_align cX2_align 5 none, Cond.methodLink RX2 153 yX1_become, Cond.instanceMethod yX1_become, Cond.selects RX1 yX1_become yX1_become, Cond.initialized RX1, Cond.code yX1_become cX1_become 2 none, Cond.fieldLink RX1 9 "DecimalRegisters$Natural" "limbs" "[J", Cond.methodLink RX1 17 arraycopyName, Cond.native arraycopyName, Cond.static arraycopyName, Cond.initialized "java/lang/System", Cond.fieldLink RX1 13 "DecimalRegisters$Natural" "size" "I", Cond.methodLink RX2 67 yX1_raise, Cond.instanceMethod yX1_raise, Cond.selects RX1 yX1_raise yX1_raise, Cond.code yX1_raise cX1_raise 10 none, Cond.fieldLink RX1 42 "DecimalRegisters$Natural" "TENS" "[J", Cond.constantLong RX1 26 (1000000), Cond.methodLink RX1 47 yX1_close]
def wsX2_scale_r3 : List Cond := [Cond.instanceMethod yX1_close, Cond.selects RX1 yX1_close yX1_close, Cond.code yX1_close cX1_close 4 none, Cond.methodLink RX1 54 yX1_shift, Cond.instanceMethod yX1_shift, Cond.selects RX1 yX1_shift yX1_shift, Cond.code yX1_shift cX1_shift 3 none, Cond.methodLink RX2 158 yX1_takeOut, Cond.instanceMethod yX1_takeOut, Cond.selects RX1 yX1_takeOut yX1_takeOut, Cond.code yX1_takeOut cX1_takeOut 7 none, Cond.constantLong RX1 66 (-1), Cond.methodLink RX1 23 yX1_clear, Cond.instanceMethod yX1_clear, Cond.selects RX1 yX1_clear yX1_clear, Cond.code yX1_clear cX1_clear 2 none, Cond.methodLink RX1 58 yX1_guess, Cond.instanceMethod yX1_guess, Cond.selects RX1 yX1_guess yX1_guess, Cond.code yX1_guess cX1_guess 8 (some .long), Cond.methodLink RX1 62 yX1_takeAway, Cond.instanceMethod yX1_takeAway, Cond.selects RX1 yX1_takeAway yX1_takeAway, Cond.code yX1_takeAway cX1_takeAway 10 none]
def wsX2_scale_r4 : List Cond := [Cond.methodLink RX1 68 yJ9_floorDiv_f86c9, Cond.static yJ9_floorDiv_f86c9, Cond.initialized RJ9, Cond.code yJ9_floorDiv_f86c9 cJ9_floorDiv_f86c9 6 (some .long), Cond.methodLink RX1 51 yX1_shrink, Cond.instanceMethod yX1_shrink, Cond.selects RX1 yX1_shrink yX1_shrink, Cond.code yX1_shrink cX1_shrink 1 none, Cond.methodLink RX2 121 yX2_settle, Cond.instanceMethod yX2_settle, Cond.selects RX2 yX2_settle yX2_settle, Cond.code yX2_settle cX2_settle 2 (some .boolean), Cond.methodLink RX2 92 yX1_isZero, Cond.instanceMethod yX1_isZero, Cond.selects RX1 yX1_isZero yX1_isZero, Cond.code yX1_isZero cX1_isZero 1 (some .boolean), Cond.methodLink RX2 73 yX1_add, Cond.instanceMethod yX1_add, Cond.selects RX1 yX1_add yX1_add, Cond.code yX1_add cX1_add 8 none, Cond.methodLink RX1 38 Lib.Math.max.name, Cond.static Lib.Math.max.name, Cond.initialized "java/lang/Math", Cond.code Lib.Math.max.name Lib.Math.max.code 2 (some .int)]
def wsX2_scale_r5 : List Cond := [Cond.methodLink RX2 127 yX1_order, Cond.instanceMethod yX1_order, Cond.selects RX1 yX1_order yX1_order, Cond.code yX1_order cX1_order 3 (some .int), Cond.methodLink RX2 162 yX2_isAwayFromZero, Cond.instanceMethod yX2_isAwayFromZero, Cond.selects RX2 yX2_isAwayFromZero yX2_isAwayFromZero, Cond.code yX2_isAwayFromZero cX2_isAwayFromZero 3 (some .boolean), Cond.methodLink RX2 133 yX1_figure, Cond.instanceMethod yX1_figure, Cond.selects RX1 yX1_figure yX1_figure, Cond.code yX1_figure cX1_figure 3 (some .int), Cond.constantLong RX1 45 (10), Cond.methodLink RX2 59 yX2_keep, Cond.instanceMethod yX2_keep, Cond.selects RX2 yX2_keep yX2_keep, Cond.code yX2_keep cX2_keep 3 (some .int), Cond.methodLink RX2 114 yX1_precision, Cond.instanceMethod yX1_precision, Cond.selects RX1 yX1_precision yX1_precision, Cond.code yX1_precision cX1_precision 2 (some .int), Cond.methodLink RX1 34 yX1_figure, Cond.methodLink RX2 63 yX0_become, Cond.instanceMethod yX0_become]
def wsX2_scale_r6 : List Cond := [Cond.selects RX0 yX0_become yX0_become, Cond.initialized RX0, Cond.code yX0_become cX0_become 2 none, Cond.fieldLink RX0 10 "DecimalRegisters$Decimal" "digits" "LDecimalRegisters$Natural;", Cond.fieldLink RX0 16 "DecimalRegisters$Decimal" "minus" "Z", Cond.fieldLink RX0 20 "DecimalRegisters$Decimal" "scale" "I", Cond.methodLink RX0 24 yX0_take, Cond.instanceMethod yX0_take, Cond.selects RX0 yX0_take yX0_take, Cond.code yX0_take cX0_take 4 none, Cond.methodLink RX0 28 yX1_become, Cond.methodLink RX0 32 yX1_isZero]
def wsX2_scale : List Cond := .code yX2_scale cX2_scale 5 (some .int) :: ((wsX2_scale_r1 ++ (wsX2_scale_r2 ++ (wsX2_scale_r3 ++ (wsX2_scale_r4 ++ (wsX2_scale_r5 ++ wsX2_scale_r6))))) ++ wsX20 ++ wsX00 ++ wsX10)
def wsX2_cutOff_r1 : List Cond := [Cond.fieldLink RX2 16 "DecimalRegisters" "result" "LDecimalRegisters$Decimal;", Cond.fieldLink RX2 20 "DecimalRegisters" "one" "LDecimalRegisters$Decimal;", Cond.fieldLink RX2 56 "DecimalRegisters$Decimal" "scale" "I", Cond.methodLink RX2 106 yX2_split, Cond.instanceMethod yX2_split, Cond.selects RX2 yX2_split yX2_split, Cond.initialized RX2, Cond.code yX2_split cX2_split 4 none, Cond.fieldLink RX2 34 "DecimalRegisters" "top" "LDecimalRegisters$Natural;", Cond.fieldLink RX2 37 "DecimalRegisters" "bottom" "LDecimalRegisters$Natural;", Cond.fieldLink RX2 23 "DecimalRegisters$Decimal" "digits" "LDecimalRegisters$Natural;", Cond.fieldLink RX2 52 "DecimalRegisters$Decimal" "minus" "Z", Cond.methodLink RX2 155 yX2_align, Cond.instanceMethod yX2_align, Cond.selects RX2 yX2_align yX2_align, Cond.code yX2_align cX2_align 5 none, Cond.methodLink RX2 153 yX1_become, Cond.instanceMethod yX1_become, Cond.selects RX1 yX1_become yX1_become, Cond.initialized RX1, Cond.code yX1_become cX1_become 2 none, Cond.fieldLink RX1 9 "DecimalRegisters$Natural" "limbs" "[J", Cond.methodLink RX1 17 arraycopyName, Cond.native arraycopyName]
def wsX2_cutOff_r2 : List Cond := [Cond.static arraycopyName, Cond.initialized "java/lang/System", Cond.fieldLink RX1 13 "DecimalRegisters$Natural" "size" "I", Cond.methodLink RX2 67 yX1_raise, Cond.instanceMethod yX1_raise, Cond.selects RX1 yX1_raise yX1_raise, Cond.code yX1_raise cX1_raise 10 none, Cond.fieldLink RX1 42 "DecimalRegisters$Natural" "TENS" "[J", Cond.constantLong RX1 26 (1000000), Cond.methodLink RX1 47 yX1_close, Cond.instanceMethod yX1_close, Cond.selects RX1 yX1_close yX1_close, Cond.code yX1_close cX1_close 4 none, Cond.methodLink RX1 54 yX1_shift, Cond.instanceMethod yX1_shift, Cond.selects RX1 yX1_shift yX1_shift, Cond.code yX1_shift cX1_shift 3 none, Cond.methodLink RX2 158 yX1_takeOut, Cond.instanceMethod yX1_takeOut, Cond.selects RX1 yX1_takeOut yX1_takeOut, Cond.code yX1_takeOut cX1_takeOut 7 none, Cond.constantLong RX1 66 (-1), Cond.methodLink RX1 23 yX1_clear, Cond.instanceMethod yX1_clear]
def wsX2_cutOff_r3 : List Cond := [Cond.selects RX1 yX1_clear yX1_clear, Cond.code yX1_clear cX1_clear 2 none, Cond.methodLink RX1 58 yX1_guess, Cond.instanceMethod yX1_guess, Cond.selects RX1 yX1_guess yX1_guess, Cond.code yX1_guess cX1_guess 8 (some .long), Cond.methodLink RX1 62 yX1_takeAway, Cond.instanceMethod yX1_takeAway, Cond.selects RX1 yX1_takeAway yX1_takeAway, Cond.code yX1_takeAway cX1_takeAway 10 none, Cond.methodLink RX1 68 yJ9_floorDiv_f86c9, Cond.static yJ9_floorDiv_f86c9, Cond.initialized RJ9, Cond.code yJ9_floorDiv_f86c9 cJ9_floorDiv_f86c9 6 (some .long), Cond.methodLink RX1 51 yX1_shrink, Cond.instanceMethod yX1_shrink, Cond.selects RX1 yX1_shrink yX1_shrink, Cond.code yX1_shrink cX1_shrink 1 none]
def wsX2_cutOff : List Cond := .code yX2_cutOff cX2_cutOff 2 none :: ((wsX2_cutOff_r1 ++ (wsX2_cutOff_r2 ++ wsX2_cutOff_r3)) ++ wsX20 ++ wsX00 ++ wsX10)
def wsX2_round_r1 : List Cond := [Cond.fieldLink RX2 11 "DecimalRegisters" "registers" "[LDecimalRegisters$Decimal;", Cond.fieldLink RX2 23 "DecimalRegisters$Decimal" "digits" "LDecimalRegisters$Natural;", Cond.fieldLink RX2 16 "DecimalRegisters" "result" "LDecimalRegisters$Decimal;", Cond.methodLink RX2 48 yX2_isRegister, Cond.static yX2_isRegister, Cond.initialized RX2, Cond.code yX2_isRegister cX2_isRegister 1 (some .boolean), Cond.methodLink RX2 89 yX2_isWay, Cond.static yX2_isWay, Cond.code yX2_isWay cX2_isWay 1 (some .boolean), Cond.methodLink RX2 114 yX1_precision, Cond.instanceMethod yX1_precision, Cond.selects RX1 yX1_precision yX1_precision, Cond.initialized RX1, Cond.code yX1_precision cX1_precision 2 (some .int), Cond.fieldLink RX1 13 "DecimalRegisters$Natural" "size" "I", Cond.methodLink RX1 38 Lib.Math.max.name, Cond.static Lib.Math.max.name, Cond.initialized "java/lang/Math", Cond.code Lib.Math.max.name Lib.Math.max.code 2 (some .int), Cond.methodLink RX1 34 yX1_figure, Cond.instanceMethod yX1_figure, Cond.selects RX1 yX1_figure yX1_figure, Cond.code yX1_figure cX1_figure 3 (some .int)]
def wsX2_round_r2 : List Cond := [Cond.fieldLink RX1 9 "DecimalRegisters$Natural" "limbs" "[J", Cond.fieldLink RX1 42 "DecimalRegisters$Natural" "TENS" "[J", Cond.constantLong RX1 45 (10), Cond.methodLink RX2 63 yX0_become, Cond.instanceMethod yX0_become, Cond.selects RX0 yX0_become yX0_become, Cond.initialized RX0, Cond.code yX0_become cX0_become 2 none, Cond.fieldLink RX0 10 "DecimalRegisters$Decimal" "digits" "LDecimalRegisters$Natural;", Cond.fieldLink RX0 16 "DecimalRegisters$Decimal" "minus" "Z", Cond.fieldLink RX0 20 "DecimalRegisters$Decimal" "scale" "I", Cond.methodLink RX0 24 yX0_take, Cond.instanceMethod yX0_take, Cond.selects RX0 yX0_take yX0_take, Cond.code yX0_take cX0_take 4 none, Cond.methodLink RX0 28 yX1_become, Cond.instanceMethod yX1_become, Cond.selects RX1 yX1_become yX1_become, Cond.code yX1_become cX1_become 2 none, Cond.methodLink RX1 17 arraycopyName, Cond.native arraycopyName, Cond.static arraycopyName, Cond.initialized "java/lang/System", Cond.methodLink RX0 32 yX1_isZero]
def wsX2_round_r3 : List Cond := [Cond.instanceMethod yX1_isZero, Cond.selects RX1 yX1_isZero yX1_isZero, Cond.code yX1_isZero cX1_isZero 1 (some .boolean), Cond.methodLink RX2 118 yX2_cutOff, Cond.instanceMethod yX2_cutOff, Cond.selects RX2 yX2_cutOff yX2_cutOff, Cond.code yX2_cutOff cX2_cutOff 2 none, Cond.fieldLink RX2 20 "DecimalRegisters" "one" "LDecimalRegisters$Decimal;", Cond.fieldLink RX2 56 "DecimalRegisters$Decimal" "scale" "I", Cond.methodLink RX2 106 yX2_split, Cond.instanceMethod yX2_split, Cond.selects RX2 yX2_split yX2_split, Cond.code yX2_split cX2_split 4 none, Cond.fieldLink RX2 34 "DecimalRegisters" "top" "LDecimalRegisters$Natural;", Cond.fieldLink RX2 37 "DecimalRegisters" "bottom" "LDecimalRegisters$Natural;", Cond.fieldLink RX2 52 "DecimalRegisters$Decimal" "minus" "Z", Cond.methodLink RX2 155 yX2_align, Cond.instanceMethod yX2_align, Cond.selects RX2 yX2_align yX2_align, Cond.code yX2_align cX2_align 5 none, Cond.methodLink RX2 153 yX1_become, Cond.methodLink RX2 67 yX1_raise, Cond.instanceMethod yX1_raise, Cond.selects RX1 yX1_raise yX1_raise]
def wsX2_round_r4 : List Cond := [Cond.code yX1_raise cX1_raise 10 none, Cond.constantLong RX1 26 (1000000), Cond.methodLink RX1 47 yX1_close, Cond.instanceMethod yX1_close, Cond.selects RX1 yX1_close yX1_close, Cond.code yX1_close cX1_close 4 none, Cond.methodLink RX1 54 yX1_shift, Cond.instanceMethod yX1_shift, Cond.selects RX1 yX1_shift yX1_shift, Cond.code yX1_shift cX1_shift 3 none, Cond.methodLink RX2 158 yX1_takeOut, Cond.instanceMethod yX1_takeOut, Cond.selects RX1 yX1_takeOut yX1_takeOut, Cond.code yX1_takeOut cX1_takeOut 7 none, Cond.constantLong RX1 66 (-1), Cond.methodLink RX1 23 yX1_clear, Cond.instanceMethod yX1_clear, Cond.selects RX1 yX1_clear yX1_clear, Cond.code yX1_clear cX1_clear 2 none, Cond.methodLink RX1 58 yX1_guess, Cond.instanceMethod yX1_guess, Cond.selects RX1 yX1_guess yX1_guess, Cond.code yX1_guess cX1_guess 8 (some .long), Cond.methodLink RX1 62 yX1_takeAway]
def wsX2_round_r5 : List Cond := [Cond.instanceMethod yX1_takeAway, Cond.selects RX1 yX1_takeAway yX1_takeAway, Cond.code yX1_takeAway cX1_takeAway 10 none, Cond.methodLink RX1 68 yJ9_floorDiv_f86c9, Cond.static yJ9_floorDiv_f86c9, Cond.initialized RJ9, Cond.code yJ9_floorDiv_f86c9 cJ9_floorDiv_f86c9 6 (some .long), Cond.methodLink RX1 51 yX1_shrink, Cond.instanceMethod yX1_shrink, Cond.selects RX1 yX1_shrink yX1_shrink, Cond.code yX1_shrink cX1_shrink 1 none, Cond.methodLink RX2 121 yX2_settle, Cond.instanceMethod yX2_settle, Cond.selects RX2 yX2_settle yX2_settle, Cond.code yX2_settle cX2_settle 2 (some .boolean), Cond.methodLink RX2 92 yX1_isZero, Cond.methodLink RX2 73 yX1_add, Cond.instanceMethod yX1_add, Cond.selects RX1 yX1_add yX1_add, Cond.code yX1_add cX1_add 8 none, Cond.methodLink RX2 127 yX1_order, Cond.instanceMethod yX1_order, Cond.selects RX1 yX1_order yX1_order, Cond.code yX1_order cX1_order 3 (some .int)]
def wsX2_round_r6 : List Cond := [Cond.methodLink RX2 162 yX2_isAwayFromZero, Cond.instanceMethod yX2_isAwayFromZero, Cond.selects RX2 yX2_isAwayFromZero yX2_isAwayFromZero, Cond.code yX2_isAwayFromZero cX2_isAwayFromZero 3 (some .boolean), Cond.methodLink RX2 133 yX1_figure, Cond.methodLink RX2 59 yX2_keep, Cond.instanceMethod yX2_keep, Cond.selects RX2 yX2_keep yX2_keep, Cond.code yX2_keep cX2_keep 3 (some .int), Cond.methodLink RX2 150 yX2_isScale, Cond.static yX2_isScale, Cond.code yX2_isScale cX2_isScale 1 (some .boolean)]
def wsX2_round : List Cond := .code yX2_round cX2_round 7 (some .int) :: ((wsX2_round_r1 ++ (wsX2_round_r2 ++ (wsX2_round_r3 ++ (wsX2_round_r4 ++ (wsX2_round_r5 ++ wsX2_round_r6))))) ++ wsX20 ++ wsX00 ++ wsX10)
def wsX2_cutOffZeros_r1 : List Cond := [Cond.fieldLink RX2 16 "DecimalRegisters" "result" "LDecimalRegisters$Decimal;", Cond.fieldLink RX2 23 "DecimalRegisters$Decimal" "digits" "LDecimalRegisters$Natural;", Cond.fieldLink RX2 56 "DecimalRegisters$Decimal" "scale" "I", Cond.methodLink RX2 92 yX1_isZero, Cond.instanceMethod yX1_isZero, Cond.selects RX1 yX1_isZero yX1_isZero, Cond.initialized RX1, Cond.code yX1_isZero cX1_isZero 1 (some .boolean), Cond.fieldLink RX1 13 "DecimalRegisters$Natural" "size" "I", Cond.methodLink RX2 166 yX1_zerosAtEnd, Cond.instanceMethod yX1_zerosAtEnd, Cond.selects RX1 yX1_zerosAtEnd yX1_zerosAtEnd, Cond.code yX1_zerosAtEnd cX1_zerosAtEnd 3 (some .int), Cond.methodLink RX1 34 yX1_figure, Cond.instanceMethod yX1_figure, Cond.selects RX1 yX1_figure yX1_figure, Cond.code yX1_figure cX1_figure 3 (some .int), Cond.fieldLink RX1 9 "DecimalRegisters$Natural" "limbs" "[J", Cond.fieldLink RX1 42 "DecimalRegisters$Natural" "TENS" "[J", Cond.constantLong RX1 45 (10), Cond.methodLink RX2 118 yX2_cutOff, Cond.instanceMethod yX2_cutOff, Cond.selects RX2 yX2_cutOff yX2_cutOff, Cond.initialized RX2]
def wsX2_cutOffZeros_r2 : List Cond := [Cond.code yX2_cutOff cX2_cutOff 2 none, Cond.fieldLink RX2 20 "DecimalRegisters" "one" "LDecimalRegisters$Decimal;", Cond.methodLink RX2 106 yX2_split, Cond.instanceMethod yX2_split, Cond.selects RX2 yX2_split yX2_split, Cond.code yX2_split cX2_split 4 none, Cond.fieldLink RX2 34 "DecimalRegisters" "top" "LDecimalRegisters$Natural;", Cond.fieldLink RX2 37 "DecimalRegisters" "bottom" "LDecimalRegisters$Natural;", Cond.fieldLink RX2 52 "DecimalRegisters$Decimal" "minus" "Z", Cond.methodLink RX2 155 yX2_align, Cond.instanceMethod yX2_align, Cond.selects RX2 yX2_align yX2_align, Cond.code yX2_align cX2_align 5 none, Cond.methodLink RX2 153 yX1_become, Cond.instanceMethod yX1_become, Cond.selects RX1 yX1_become yX1_become, Cond.code yX1_become cX1_become 2 none, Cond.methodLink RX1 17 arraycopyName, Cond.native arraycopyName, Cond.static arraycopyName, Cond.initialized "java/lang/System", Cond.methodLink RX2 67 yX1_raise, Cond.instanceMethod yX1_raise, Cond.selects RX1 yX1_raise yX1_raise]
def wsX2_cutOffZeros_r3 : List Cond := [Cond.code yX1_raise cX1_raise 10 none, Cond.constantLong RX1 26 (1000000), Cond.methodLink RX1 47 yX1_close, Cond.instanceMethod yX1_close, Cond.selects RX1 yX1_close yX1_close, Cond.code yX1_close cX1_close 4 none, Cond.methodLink RX1 54 yX1_shift, Cond.instanceMethod yX1_shift, Cond.selects RX1 yX1_shift yX1_shift, Cond.code yX1_shift cX1_shift 3 none, Cond.methodLink RX2 158 yX1_takeOut, Cond.instanceMethod yX1_takeOut, Cond.selects RX1 yX1_takeOut yX1_takeOut, Cond.code yX1_takeOut cX1_takeOut 7 none, Cond.constantLong RX1 66 (-1), Cond.methodLink RX1 23 yX1_clear, Cond.instanceMethod yX1_clear, Cond.selects RX1 yX1_clear yX1_clear, Cond.code yX1_clear cX1_clear 2 none, Cond.methodLink RX1 58 yX1_guess, Cond.instanceMethod yX1_guess, Cond.selects RX1 yX1_guess yX1_guess, Cond.code yX1_guess cX1_guess 8 (some .long), Cond.methodLink RX1 62 yX1_takeAway]
def wsX2_cutOffZeros_r4 : List Cond := [Cond.instanceMethod yX1_takeAway, Cond.selects RX1 yX1_takeAway yX1_takeAway, Cond.code yX1_takeAway cX1_takeAway 10 none, Cond.methodLink RX1 68 yJ9_floorDiv_f86c9, Cond.static yJ9_floorDiv_f86c9, Cond.initialized RJ9, Cond.code yJ9_floorDiv_f86c9 cJ9_floorDiv_f86c9 6 (some .long), Cond.methodLink RX1 51 yX1_shrink, Cond.instanceMethod yX1_shrink, Cond.selects RX1 yX1_shrink yX1_shrink, Cond.code yX1_shrink cX1_shrink 1 none]
def wsX2_cutOffZeros : List Cond := .code yX2_cutOffZeros cX2_cutOffZeros 1 none :: ((wsX2_cutOffZeros_r1 ++ (wsX2_cutOffZeros_r2 ++ (wsX2_cutOffZeros_r3 ++ wsX2_cutOffZeros_r4))) ++ wsX20 ++ wsX00 ++ wsX10)
def wsX2_turn_r1 : List Cond := [Cond.fieldLink RX2 16 "DecimalRegisters" "result" "LDecimalRegisters$Decimal;", Cond.fieldLink RX2 11 "DecimalRegisters" "registers" "[LDecimalRegisters$Decimal;", Cond.fieldLink RX2 52 "DecimalRegisters$Decimal" "minus" "Z", Cond.methodLink RX2 48 yX2_isRegister, Cond.static yX2_isRegister, Cond.initialized RX2, Cond.code yX2_isRegister cX2_isRegister 1 (some .boolean), Cond.methodLink RX2 63 yX0_become, Cond.instanceMethod yX0_become, Cond.selects RX0 yX0_become yX0_become, Cond.initialized RX0, Cond.code yX0_become cX0_become 2 none, Cond.fieldLink RX0 10 "DecimalRegisters$Decimal" "digits" "LDecimalRegisters$Natural;", Cond.fieldLink RX0 16 "DecimalRegisters$Decimal" "minus" "Z", Cond.fieldLink RX0 20 "DecimalRegisters$Decimal" "scale" "I", Cond.methodLink RX0 24 yX0_take, Cond.instanceMethod yX0_take, Cond.selects RX0 yX0_take yX0_take, Cond.code yX0_take cX0_take 4 none, Cond.methodLink RX0 28 yX1_become, Cond.instanceMethod yX1_become, Cond.selects RX1 yX1_become yX1_become, Cond.initialized RX1, Cond.code yX1_become cX1_become 2 none]
def wsX2_turn_r2 : List Cond := [Cond.fieldLink RX1 9 "DecimalRegisters$Natural" "limbs" "[J", Cond.methodLink RX1 17 arraycopyName, Cond.native arraycopyName, Cond.static arraycopyName, Cond.initialized "java/lang/System", Cond.fieldLink RX1 13 "DecimalRegisters$Natural" "size" "I", Cond.methodLink RX0 32 yX1_isZero, Cond.instanceMethod yX1_isZero, Cond.selects RX1 yX1_isZero yX1_isZero, Cond.code yX1_isZero cX1_isZero 1 (some .boolean), Cond.methodLink RX2 124 yX2_cutOffZeros, Cond.instanceMethod yX2_cutOffZeros, Cond.selects RX2 yX2_cutOffZeros yX2_cutOffZeros, Cond.code yX2_cutOffZeros cX2_cutOffZeros 1 none, Cond.fieldLink RX2 23 "DecimalRegisters$Decimal" "digits" "LDecimalRegisters$Natural;", Cond.fieldLink RX2 56 "DecimalRegisters$Decimal" "scale" "I", Cond.methodLink RX2 92 yX1_isZero, Cond.methodLink RX2 166 yX1_zerosAtEnd, Cond.instanceMethod yX1_zerosAtEnd, Cond.selects RX1 yX1_zerosAtEnd yX1_zerosAtEnd, Cond.code yX1_zerosAtEnd cX1_zerosAtEnd 3 (some .int), Cond.methodLink RX1 34 yX1_figure, Cond.instanceMethod yX1_figure, Cond.selects RX1 yX1_figure yX1_figure]
def wsX2_turn_r3 : List Cond := [Cond.code yX1_figure cX1_figure 3 (some .int), Cond.fieldLink RX1 42 "DecimalRegisters$Natural" "TENS" "[J", Cond.constantLong RX1 45 (10), Cond.methodLink RX2 118 yX2_cutOff, Cond.instanceMethod yX2_cutOff, Cond.selects RX2 yX2_cutOff yX2_cutOff, Cond.code yX2_cutOff cX2_cutOff 2 none, Cond.fieldLink RX2 20 "DecimalRegisters" "one" "LDecimalRegisters$Decimal;", Cond.methodLink RX2 106 yX2_split, Cond.instanceMethod yX2_split, Cond.selects RX2 yX2_split yX2_split, Cond.code yX2_split cX2_split 4 none, Cond.fieldLink RX2 34 "DecimalRegisters" "top" "LDecimalRegisters$Natural;", Cond.fieldLink RX2 37 "DecimalRegisters" "bottom" "LDecimalRegisters$Natural;", Cond.methodLink RX2 155 yX2_align, Cond.instanceMethod yX2_align, Cond.selects RX2 yX2_align yX2_align, Cond.code yX2_align cX2_align 5 none, Cond.methodLink RX2 153 yX1_become, Cond.methodLink RX2 67 yX1_raise, Cond.instanceMethod yX1_raise, Cond.selects RX1 yX1_raise yX1_raise, Cond.code yX1_raise cX1_raise 10 none, Cond.constantLong RX1 26 (1000000)]
def wsX2_turn_r4 : List Cond := [Cond.methodLink RX1 47 yX1_close, Cond.instanceMethod yX1_close, Cond.selects RX1 yX1_close yX1_close, Cond.code yX1_close cX1_close 4 none, Cond.methodLink RX1 54 yX1_shift, Cond.instanceMethod yX1_shift, Cond.selects RX1 yX1_shift yX1_shift, Cond.code yX1_shift cX1_shift 3 none, Cond.methodLink RX2 158 yX1_takeOut, Cond.instanceMethod yX1_takeOut, Cond.selects RX1 yX1_takeOut yX1_takeOut, Cond.code yX1_takeOut cX1_takeOut 7 none, Cond.constantLong RX1 66 (-1), Cond.methodLink RX1 23 yX1_clear, Cond.instanceMethod yX1_clear, Cond.selects RX1 yX1_clear yX1_clear, Cond.code yX1_clear cX1_clear 2 none, Cond.methodLink RX1 58 yX1_guess, Cond.instanceMethod yX1_guess, Cond.selects RX1 yX1_guess yX1_guess, Cond.code yX1_guess cX1_guess 8 (some .long), Cond.methodLink RX1 62 yX1_takeAway, Cond.instanceMethod yX1_takeAway, Cond.selects RX1 yX1_takeAway yX1_takeAway]
def wsX2_turn_r5 : List Cond := [Cond.code yX1_takeAway cX1_takeAway 10 none, Cond.methodLink RX1 68 yJ9_floorDiv_f86c9, Cond.static yJ9_floorDiv_f86c9, Cond.initialized RJ9, Cond.code yJ9_floorDiv_f86c9 cJ9_floorDiv_f86c9 6 (some .long), Cond.methodLink RX1 51 yX1_shrink, Cond.instanceMethod yX1_shrink, Cond.selects RX1 yX1_shrink yX1_shrink, Cond.code yX1_shrink cX1_shrink 1 none, Cond.methodLink RX2 59 yX2_keep, Cond.instanceMethod yX2_keep, Cond.selects RX2 yX2_keep yX2_keep, Cond.code yX2_keep cX2_keep 3 (some .int), Cond.methodLink RX2 114 yX1_precision, Cond.instanceMethod yX1_precision, Cond.selects RX1 yX1_precision yX1_precision, Cond.code yX1_precision cX1_precision 2 (some .int), Cond.methodLink RX1 38 Lib.Math.max.name, Cond.static Lib.Math.max.name, Cond.initialized "java/lang/Math", Cond.code Lib.Math.max.name Lib.Math.max.code 2 (some .int), Cond.methodLink RX2 150 yX2_isScale, Cond.static yX2_isScale, Cond.code yX2_isScale cX2_isScale 1 (some .boolean)]
def wsX2_turn : List Cond := .code yX2_turn cX2_turn 4 (some .int) :: ((wsX2_turn_r1 ++ (wsX2_turn_r2 ++ (wsX2_turn_r3 ++ (wsX2_turn_r4 ++ wsX2_turn_r5)))) ++ wsX20 ++ wsX00 ++ wsX10)
def wsX2_move_r1 : List Cond := [Cond.fieldLink RX2 16 "DecimalRegisters" "result" "LDecimalRegisters$Decimal;", Cond.fieldLink RX2 11 "DecimalRegisters" "registers" "[LDecimalRegisters$Decimal;", Cond.fieldLink RX2 56 "DecimalRegisters$Decimal" "scale" "I", Cond.fieldLink RX2 23 "DecimalRegisters$Decimal" "digits" "LDecimalRegisters$Natural;", Cond.methodLink RX2 48 yX2_isRegister, Cond.static yX2_isRegister, Cond.initialized RX2, Cond.code yX2_isRegister cX2_isRegister 1 (some .boolean), Cond.methodLink RX2 63 yX0_become, Cond.instanceMethod yX0_become, Cond.selects RX0 yX0_become yX0_become, Cond.initialized RX0, Cond.code yX0_become cX0_become 2 none, Cond.fieldLink RX0 10 "DecimalRegisters$Decimal" "digits" "LDecimalRegisters$Natural;", Cond.fieldLink RX0 16 "DecimalRegisters$Decimal" "minus" "Z", Cond.fieldLink RX0 20 "DecimalRegisters$Decimal" "scale" "I", Cond.methodLink RX0 24 yX0_take, Cond.instanceMethod yX0_take, Cond.selects RX0 yX0_take yX0_take, Cond.code yX0_take cX0_take 4 none, Cond.methodLink RX0 28 yX1_become, Cond.instanceMethod yX1_become, Cond.selects RX1 yX1_become yX1_become, Cond.initialized RX1]
def wsX2_move_r2 : List Cond := [Cond.code yX1_become cX1_become 2 none, Cond.fieldLink RX1 9 "DecimalRegisters$Natural" "limbs" "[J", Cond.methodLink RX1 17 arraycopyName, Cond.native arraycopyName, Cond.static arraycopyName, Cond.initialized "java/lang/System", Cond.fieldLink RX1 13 "DecimalRegisters$Natural" "size" "I", Cond.methodLink RX0 32 yX1_isZero, Cond.instanceMethod yX1_isZero, Cond.selects RX1 yX1_isZero yX1_isZero, Cond.code yX1_isZero cX1_isZero 1 (some .boolean), Cond.methodLink RX2 67 yX1_raise, Cond.instanceMethod yX1_raise, Cond.selects RX1 yX1_raise yX1_raise, Cond.code yX1_raise cX1_raise 10 none, Cond.fieldLink RX1 42 "DecimalRegisters$Natural" "TENS" "[J", Cond.constantLong RX1 26 (1000000), Cond.methodLink RX1 47 yX1_close, Cond.instanceMethod yX1_close, Cond.selects RX1 yX1_close yX1_close, Cond.code yX1_close cX1_close 4 none, Cond.methodLink RX1 54 yX1_shift, Cond.instanceMethod yX1_shift, Cond.selects RX1 yX1_shift yX1_shift]
def wsX2_move_r3 : List Cond := [Cond.code yX1_shift cX1_shift 3 none, Cond.methodLink RX2 59 yX2_keep, Cond.instanceMethod yX2_keep, Cond.selects RX2 yX2_keep yX2_keep, Cond.code yX2_keep cX2_keep 3 (some .int), Cond.methodLink RX2 114 yX1_precision, Cond.instanceMethod yX1_precision, Cond.selects RX1 yX1_precision yX1_precision, Cond.code yX1_precision cX1_precision 2 (some .int), Cond.methodLink RX1 38 Lib.Math.max.name, Cond.static Lib.Math.max.name, Cond.initialized "java/lang/Math", Cond.code Lib.Math.max.name Lib.Math.max.code 2 (some .int), Cond.methodLink RX1 34 yX1_figure, Cond.instanceMethod yX1_figure, Cond.selects RX1 yX1_figure yX1_figure, Cond.code yX1_figure cX1_figure 3 (some .int), Cond.constantLong RX1 45 (10), Cond.methodLink RX2 150 yX2_isScale, Cond.static yX2_isScale, Cond.code yX2_isScale cX2_isScale 1 (some .boolean)]
def wsX2_move : List Cond := .code yX2_move cX2_move 5 (some .int) :: ((wsX2_move_r1 ++ (wsX2_move_r2 ++ wsX2_move_r3)) ++ wsX20 ++ wsX00 ++ wsX10)
def wsX2_power_r1 : List Cond := [Cond.fieldLink RX2 11 "DecimalRegisters" "registers" "[LDecimalRegisters$Decimal;", Cond.fieldLink RX2 23 "DecimalRegisters$Decimal" "digits" "LDecimalRegisters$Natural;", Cond.fieldLink RX2 16 "DecimalRegisters" "result" "LDecimalRegisters$Decimal;", Cond.fieldLink RX2 20 "DecimalRegisters" "one" "LDecimalRegisters$Decimal;", Cond.methodLink RX2 48 yX2_isRegister, Cond.static yX2_isRegister, Cond.initialized RX2, Cond.code yX2_isRegister cX2_isRegister 1 (some .boolean), Cond.methodLink RX2 114 yX1_precision, Cond.instanceMethod yX1_precision, Cond.selects RX1 yX1_precision yX1_precision, Cond.initialized RX1, Cond.code yX1_precision cX1_precision 2 (some .int), Cond.fieldLink RX1 13 "DecimalRegisters$Natural" "size" "I", Cond.methodLink RX1 38 Lib.Math.max.name, Cond.static Lib.Math.max.name, Cond.initialized "java/lang/Math", Cond.code Lib.Math.max.name Lib.Math.max.code 2 (some .int), Cond.methodLink RX1 34 yX1_figure, Cond.instanceMethod yX1_figure, Cond.selects RX1 yX1_figure yX1_figure, Cond.code yX1_figure cX1_figure 3 (some .int), Cond.fieldLink RX1 9 "DecimalRegisters$Natural" "limbs" "[J", Cond.fieldLink RX1 42 "DecimalRegisters$Natural" "TENS" "[J"]
def wsX2_power_r2 : List Cond := [Cond.constantLong RX1 45 (10), Cond.methodLink RX2 63 yX0_become, Cond.instanceMethod yX0_become, Cond.selects RX0 yX0_become yX0_become, Cond.initialized RX0, Cond.code yX0_become cX0_become 2 none, Cond.fieldLink RX0 10 "DecimalRegisters$Decimal" "digits" "LDecimalRegisters$Natural;", Cond.fieldLink RX0 16 "DecimalRegisters$Decimal" "minus" "Z", Cond.fieldLink RX0 20 "DecimalRegisters$Decimal" "scale" "I", Cond.methodLink RX0 24 yX0_take, Cond.instanceMethod yX0_take, Cond.selects RX0 yX0_take yX0_take, Cond.code yX0_take cX0_take 4 none, Cond.methodLink RX0 28 yX1_become, Cond.instanceMethod yX1_become, Cond.selects RX1 yX1_become yX1_become, Cond.code yX1_become cX1_become 2 none, Cond.methodLink RX1 17 arraycopyName, Cond.native arraycopyName, Cond.static arraycopyName, Cond.initialized "java/lang/System", Cond.methodLink RX0 32 yX1_isZero, Cond.instanceMethod yX1_isZero, Cond.selects RX1 yX1_isZero yX1_isZero]
def wsX2_power_r3 : List Cond := [Cond.code yX1_isZero cX1_isZero 1 (some .boolean), Cond.methodLink RX2 81 yX2_multiply, Cond.instanceMethod yX2_multiply, Cond.selects RX2 yX2_multiply yX2_multiply, Cond.code yX2_multiply cX2_multiply 3 none, Cond.fieldLink RX2 34 "DecimalRegisters" "top" "LDecimalRegisters$Natural;", Cond.fieldLink RX2 52 "DecimalRegisters$Decimal" "minus" "Z", Cond.fieldLink RX2 56 "DecimalRegisters$Decimal" "scale" "I", Cond.methodLink RX2 172 yX1_becomeProduct, Cond.instanceMethod yX1_becomeProduct, Cond.selects RX1 yX1_becomeProduct yX1_becomeProduct, Cond.code yX1_becomeProduct cX1_becomeProduct 9 none, Cond.constantLong RX1 26 (1000000), Cond.methodLink RX1 23 yX1_clear, Cond.instanceMethod yX1_clear, Cond.selects RX1 yX1_clear yX1_clear, Cond.code yX1_clear cX1_clear 2 none, Cond.methodLink RX1 51 yX1_shrink, Cond.instanceMethod yX1_shrink, Cond.selects RX1 yX1_shrink yX1_shrink, Cond.code yX1_shrink cX1_shrink 1 none, Cond.methodLink RX2 110 yX0_take, Cond.methodLink RX2 59 yX2_keep, Cond.instanceMethod yX2_keep]
def wsX2_power_r4 : List Cond := [Cond.selects RX2 yX2_keep yX2_keep, Cond.code yX2_keep cX2_keep 3 (some .int), Cond.methodLink RX2 150 yX2_isScale, Cond.static yX2_isScale, Cond.code yX2_isScale cX2_isScale 1 (some .boolean)]
def wsX2_power : List Cond := .code yX2_power cX2_power 6 (some .int) :: ((wsX2_power_r1 ++ (wsX2_power_r2 ++ (wsX2_power_r3 ++ wsX2_power_r4))) ++ wsX20 ++ wsX00 ++ wsX10)
def wsX2_compare_r1 : List Cond := [Cond.fieldLink RX2 11 "DecimalRegisters" "registers" "[LDecimalRegisters$Decimal;", Cond.methodLink RX2 48 yX2_isRegister, Cond.static yX2_isRegister, Cond.initialized RX2, Cond.code yX2_isRegister cX2_isRegister 1 (some .boolean), Cond.methodLink RX2 85 yX2_order, Cond.instanceMethod yX2_order, Cond.selects RX2 yX2_order yX2_order, Cond.code yX2_order cX2_order 3 (some .int), Cond.fieldLink RX2 52 "DecimalRegisters$Decimal" "minus" "Z", Cond.fieldLink RX2 37 "DecimalRegisters" "bottom" "LDecimalRegisters$Natural;", Cond.fieldLink RX2 34 "DecimalRegisters" "top" "LDecimalRegisters$Natural;", Cond.methodLink RX2 130 yX0_sign, Cond.instanceMethod yX0_sign, Cond.selects RX0 yX0_sign yX0_sign, Cond.initialized RX0, Cond.code yX0_sign cX0_sign 1 (some .int), Cond.fieldLink RX0 10 "DecimalRegisters$Decimal" "digits" "LDecimalRegisters$Natural;", Cond.fieldLink RX0 16 "DecimalRegisters$Decimal" "minus" "Z", Cond.methodLink RX0 32 yX1_isZero, Cond.instanceMethod yX1_isZero, Cond.selects RX1 yX1_isZero yX1_isZero, Cond.initialized RX1, Cond.code yX1_isZero cX1_isZero 1 (some .boolean)]
def wsX2_compare_r2 : List Cond := [Cond.fieldLink RX1 13 "DecimalRegisters$Natural" "size" "I", Cond.methodLink RX2 155 yX2_align, Cond.instanceMethod yX2_align, Cond.selects RX2 yX2_align yX2_align, Cond.code yX2_align cX2_align 5 none, Cond.fieldLink RX2 56 "DecimalRegisters$Decimal" "scale" "I", Cond.fieldLink RX2 23 "DecimalRegisters$Decimal" "digits" "LDecimalRegisters$Natural;", Cond.methodLink RX2 153 yX1_become, Cond.instanceMethod yX1_become, Cond.selects RX1 yX1_become yX1_become, Cond.code yX1_become cX1_become 2 none, Cond.fieldLink RX1 9 "DecimalRegisters$Natural" "limbs" "[J", Cond.methodLink RX1 17 arraycopyName, Cond.native arraycopyName, Cond.static arraycopyName, Cond.initialized "java/lang/System", Cond.methodLink RX2 67 yX1_raise, Cond.instanceMethod yX1_raise, Cond.selects RX1 yX1_raise yX1_raise, Cond.code yX1_raise cX1_raise 10 none, Cond.fieldLink RX1 42 "DecimalRegisters$Natural" "TENS" "[J", Cond.constantLong RX1 26 (1000000), Cond.methodLink RX1 47 yX1_close, Cond.instanceMethod yX1_close]
def wsX2_compare_r3 : List Cond := [Cond.selects RX1 yX1_close yX1_close, Cond.code yX1_close cX1_close 4 none, Cond.methodLink RX1 54 yX1_shift, Cond.instanceMethod yX1_shift, Cond.selects RX1 yX1_shift yX1_shift, Cond.code yX1_shift cX1_shift 3 none, Cond.methodLink RX2 127 yX1_order, Cond.instanceMethod yX1_order, Cond.selects RX1 yX1_order yX1_order, Cond.code yX1_order cX1_order 3 (some .int)]
def wsX2_compare : List Cond := .code yX2_compare cX2_compare 3 (some .int) :: ((wsX2_compare_r1 ++ (wsX2_compare_r2 ++ wsX2_compare_r3)) ++ wsX20 ++ wsX00 ++ wsX10)
def wsX2_same : List Cond := .code yX2_same cX2_same 5 (some .boolean) :: ([.fieldLink RX2 11 "DecimalRegisters" "registers" "[LDecimalRegisters$Decimal;", .fieldLink RX2 56 "DecimalRegisters$Decimal" "scale" "I", .fieldLink RX2 52 "DecimalRegisters$Decimal" "minus" "Z", .fieldLink RX2 23 "DecimalRegisters$Decimal" "digits" "LDecimalRegisters$Natural;", .methodLink RX2 48 yX2_isRegister, .static yX2_isRegister, .initialized RX2, .code yX2_isRegister cX2_isRegister 1 (some .boolean), .methodLink RX2 127 yX1_order, .instanceMethod yX1_order, .selects RX1 yX1_order yX1_order, .initialized RX1, .code yX1_order cX1_order 3 (some .int), .fieldLink RX1 13 "DecimalRegisters$Natural" "size" "I", .fieldLink RX1 9 "DecimalRegisters$Natural" "limbs" "[J"] ++ wsX20 ++ wsX00 ++ wsX10)
def wsX2_look_r1 : List Cond := [Cond.fieldLink RX2 11 "DecimalRegisters" "registers" "[LDecimalRegisters$Decimal;", Cond.fieldLink RX2 23 "DecimalRegisters$Decimal" "digits" "LDecimalRegisters$Natural;", Cond.fieldLink RX2 56 "DecimalRegisters$Decimal" "scale" "I", Cond.methodLink RX2 48 yX2_isRegister, Cond.static yX2_isRegister, Cond.initialized RX2, Cond.code yX2_isRegister cX2_isRegister 1 (some .boolean), Cond.methodLink RX2 130 yX0_sign, Cond.instanceMethod yX0_sign, Cond.selects RX0 yX0_sign yX0_sign, Cond.initialized RX0, Cond.code yX0_sign cX0_sign 1 (some .int), Cond.fieldLink RX0 10 "DecimalRegisters$Decimal" "digits" "LDecimalRegisters$Natural;", Cond.fieldLink RX0 16 "DecimalRegisters$Decimal" "minus" "Z", Cond.methodLink RX0 32 yX1_isZero, Cond.instanceMethod yX1_isZero, Cond.selects RX1 yX1_isZero yX1_isZero, Cond.initialized RX1, Cond.code yX1_isZero cX1_isZero 1 (some .boolean), Cond.fieldLink RX1 13 "DecimalRegisters$Natural" "size" "I", Cond.methodLink RX2 114 yX1_precision, Cond.instanceMethod yX1_precision, Cond.selects RX1 yX1_precision yX1_precision, Cond.code yX1_precision cX1_precision 2 (some .int)]
def wsX2_look_r2 : List Cond := [Cond.methodLink RX1 38 Lib.Math.max.name, Cond.static Lib.Math.max.name, Cond.initialized "java/lang/Math", Cond.code Lib.Math.max.name Lib.Math.max.code 2 (some .int), Cond.methodLink RX1 34 yX1_figure, Cond.instanceMethod yX1_figure, Cond.selects RX1 yX1_figure yX1_figure, Cond.code yX1_figure cX1_figure 3 (some .int), Cond.fieldLink RX1 9 "DecimalRegisters$Natural" "limbs" "[J", Cond.fieldLink RX1 42 "DecimalRegisters$Natural" "TENS" "[J", Cond.constantLong RX1 45 (10)]
def wsX2_look : List Cond := .code yX2_look cX2_look 3 (some .int) :: ((wsX2_look_r1 ++ wsX2_look_r2) ++ wsX20 ++ wsX00 ++ wsX10)
def wsX2_digit : List Cond := .code yX2_digit cX2_digit 3 (some .int) :: ([.fieldLink RX2 11 "DecimalRegisters" "registers" "[LDecimalRegisters$Decimal;", .fieldLink RX2 23 "DecimalRegisters$Decimal" "digits" "LDecimalRegisters$Natural;", .methodLink RX2 48 yX2_isRegister, .static yX2_isRegister, .initialized RX2, .code yX2_isRegister cX2_isRegister 1 (some .boolean), .methodLink RX2 114 yX1_precision, .instanceMethod yX1_precision, .selects RX1 yX1_precision yX1_precision, .initialized RX1, .code yX1_precision cX1_precision 2 (some .int), .fieldLink RX1 13 "DecimalRegisters$Natural" "size" "I", .methodLink RX1 38 Lib.Math.max.name, .static Lib.Math.max.name, .initialized "java/lang/Math", .code Lib.Math.max.name Lib.Math.max.code 2 (some .int), .methodLink RX1 34 yX1_figure, .instanceMethod yX1_figure, .selects RX1 yX1_figure yX1_figure, .code yX1_figure cX1_figure 3 (some .int), .fieldLink RX1 9 "DecimalRegisters$Natural" "limbs" "[J", .fieldLink RX1 42 "DecimalRegisters$Natural" "TENS" "[J", .constantLong RX1 45 (10), .methodLink RX2 133 yX1_figure] ++ wsX20 ++ wsX00 ++ wsX10)
def wsX2_whole_r1 : List Cond := [Cond.fieldLink RX2 11 "DecimalRegisters" "registers" "[LDecimalRegisters$Decimal;", Cond.fieldLink RX2 20 "DecimalRegisters" "one" "LDecimalRegisters$Decimal;", Cond.fieldLink RX2 16 "DecimalRegisters" "result" "LDecimalRegisters$Decimal;", Cond.fieldLink RX2 23 "DecimalRegisters$Decimal" "digits" "LDecimalRegisters$Natural;", Cond.fieldLink RX2 52 "DecimalRegisters$Decimal" "minus" "Z", Cond.methodLink RX2 48 yX2_isRegister, Cond.static yX2_isRegister, Cond.initialized RX2, Cond.code yX2_isRegister cX2_isRegister 1 (some .boolean), Cond.methodLink RX2 106 yX2_split, Cond.instanceMethod yX2_split, Cond.selects RX2 yX2_split yX2_split, Cond.code yX2_split cX2_split 4 none, Cond.fieldLink RX2 34 "DecimalRegisters" "top" "LDecimalRegisters$Natural;", Cond.fieldLink RX2 37 "DecimalRegisters" "bottom" "LDecimalRegisters$Natural;", Cond.fieldLink RX2 56 "DecimalRegisters$Decimal" "scale" "I", Cond.methodLink RX2 155 yX2_align, Cond.instanceMethod yX2_align, Cond.selects RX2 yX2_align yX2_align, Cond.code yX2_align cX2_align 5 none, Cond.methodLink RX2 153 yX1_become, Cond.instanceMethod yX1_become, Cond.selects RX1 yX1_become yX1_become, Cond.initialized RX1]
def wsX2_whole_r2 : List Cond := [Cond.code yX1_become cX1_become 2 none, Cond.fieldLink RX1 9 "DecimalRegisters$Natural" "limbs" "[J", Cond.methodLink RX1 17 arraycopyName, Cond.native arraycopyName, Cond.static arraycopyName, Cond.initialized "java/lang/System", Cond.fieldLink RX1 13 "DecimalRegisters$Natural" "size" "I", Cond.methodLink RX2 67 yX1_raise, Cond.instanceMethod yX1_raise, Cond.selects RX1 yX1_raise yX1_raise, Cond.code yX1_raise cX1_raise 10 none, Cond.fieldLink RX1 42 "DecimalRegisters$Natural" "TENS" "[J", Cond.constantLong RX1 26 (1000000), Cond.methodLink RX1 47 yX1_close, Cond.instanceMethod yX1_close, Cond.selects RX1 yX1_close yX1_close, Cond.code yX1_close cX1_close 4 none, Cond.methodLink RX1 54 yX1_shift, Cond.instanceMethod yX1_shift, Cond.selects RX1 yX1_shift yX1_shift, Cond.code yX1_shift cX1_shift 3 none, Cond.methodLink RX2 158 yX1_takeOut, Cond.instanceMethod yX1_takeOut, Cond.selects RX1 yX1_takeOut yX1_takeOut]
def wsX2_whole_r3 : List Cond := [Cond.code yX1_takeOut cX1_takeOut 7 none, Cond.constantLong RX1 66 (-1), Cond.methodLink RX1 23 yX1_clear, Cond.instanceMethod yX1_clear, Cond.selects RX1 yX1_clear yX1_clear, Cond.code yX1_clear cX1_clear 2 none, Cond.methodLink RX1 58 yX1_guess, Cond.instanceMethod yX1_guess, Cond.selects RX1 yX1_guess yX1_guess, Cond.code yX1_guess cX1_guess 8 (some .long), Cond.methodLink RX1 62 yX1_takeAway, Cond.instanceMethod yX1_takeAway, Cond.selects RX1 yX1_takeAway yX1_takeAway, Cond.code yX1_takeAway cX1_takeAway 10 none, Cond.methodLink RX1 68 yJ9_floorDiv_f86c9, Cond.static yJ9_floorDiv_f86c9, Cond.initialized RJ9, Cond.code yJ9_floorDiv_f86c9 cJ9_floorDiv_f86c9 6 (some .long), Cond.methodLink RX1 51 yX1_shrink, Cond.instanceMethod yX1_shrink, Cond.selects RX1 yX1_shrink yX1_shrink, Cond.code yX1_shrink cX1_shrink 1 none, Cond.methodLink RX2 136 yX1_lowestBits, Cond.instanceMethod yX1_lowestBits]
def wsX2_whole_r4 : List Cond := [Cond.selects RX1 yX1_lowestBits yX1_lowestBits, Cond.code yX1_lowestBits cX1_lowestBits 4 (some .long)]
def wsX2_whole : List Cond := .code yX2_whole cX2_whole 4 (some .long) :: ((wsX2_whole_r1 ++ (wsX2_whole_r2 ++ (wsX2_whole_r3 ++ wsX2_whole_r4))) ++ wsX20 ++ wsX00 ++ wsX10)
def wsX2_append : List Cond := .code yX2_append cX2_append 2 none :: ([.fieldLink RX2 44 "DecimalRegisters" "textLength" "I", .fieldLink RX2 40 "DecimalRegisters" "text" "[C"] ++ wsX20)
def wsX2_appendFigures_r1 : List Cond := [Cond.fieldLink RX2 23 "DecimalRegisters$Decimal" "digits" "LDecimalRegisters$Natural;", Cond.fieldLink RX2 56 "DecimalRegisters$Decimal" "scale" "I", Cond.methodLink RX2 100 Lib.Math.max.name, Cond.static Lib.Math.max.name, Cond.initialized "java/lang/Math", Cond.code Lib.Math.max.name Lib.Math.max.code 2 (some .int), Cond.methodLink RX2 114 yX1_precision, Cond.instanceMethod yX1_precision, Cond.selects RX1 yX1_precision yX1_precision, Cond.initialized RX1, Cond.code yX1_precision cX1_precision 2 (some .int), Cond.fieldLink RX1 13 "DecimalRegisters$Natural" "size" "I", Cond.methodLink RX1 38 Lib.Math.max.name, Cond.methodLink RX1 34 yX1_figure, Cond.instanceMethod yX1_figure, Cond.selects RX1 yX1_figure yX1_figure, Cond.code yX1_figure cX1_figure 3 (some .int), Cond.fieldLink RX1 9 "DecimalRegisters$Natural" "limbs" "[J", Cond.fieldLink RX1 42 "DecimalRegisters$Natural" "TENS" "[J", Cond.constantLong RX1 45 (10), Cond.methodLink RX2 133 yX1_figure, Cond.methodLink RX2 140 yX2_append, Cond.instanceMethod yX2_append, Cond.selects RX2 yX2_append yX2_append]
def wsX2_appendFigures_r2 : List Cond := [Cond.initialized RX2, Cond.code yX2_append cX2_append 2 none, Cond.fieldLink RX2 44 "DecimalRegisters" "textLength" "I", Cond.fieldLink RX2 40 "DecimalRegisters" "text" "[C"]
def wsX2_appendFigures : List Cond := .code yX2_appendFigures cX2_appendFigures 3 none :: ((wsX2_appendFigures_r1 ++ wsX2_appendFigures_r2) ++ wsX00 ++ wsX10 ++ wsX20)
def wsX2_appendZeros : List Cond := .code yX2_appendZeros cX2_appendZeros 3 none :: ([.methodLink RX2 140 yX2_append, .instanceMethod yX2_append, .selects RX2 yX2_append yX2_append, .initialized RX2, .code yX2_append cX2_append 2 none, .fieldLink RX2 44 "DecimalRegisters" "textLength" "I", .fieldLink RX2 40 "DecimalRegisters" "text" "[C"] ++ wsX20)
def wsX2_write_r1 : List Cond := [Cond.fieldLink RX2 11 "DecimalRegisters" "registers" "[LDecimalRegisters$Decimal;", Cond.fieldLink RX2 44 "DecimalRegisters" "textLength" "I", Cond.fieldLink RX2 52 "DecimalRegisters$Decimal" "minus" "Z", Cond.fieldLink RX2 23 "DecimalRegisters$Decimal" "digits" "LDecimalRegisters$Natural;", Cond.fieldLink RX2 56 "DecimalRegisters$Decimal" "scale" "I", Cond.methodLink RX2 48 yX2_isRegister, Cond.static yX2_isRegister, Cond.initialized RX2, Cond.code yX2_isRegister cX2_isRegister 1 (some .boolean), Cond.methodLink RX2 140 yX2_append, Cond.instanceMethod yX2_append, Cond.selects RX2 yX2_append yX2_append, Cond.code yX2_append cX2_append 2 none, Cond.fieldLink RX2 40 "DecimalRegisters" "text" "[C", Cond.methodLink RX2 144 yX2_appendFigures, Cond.instanceMethod yX2_appendFigures, Cond.selects RX2 yX2_appendFigures yX2_appendFigures, Cond.code yX2_appendFigures cX2_appendFigures 3 none, Cond.methodLink RX2 100 Lib.Math.max.name, Cond.static Lib.Math.max.name, Cond.initialized "java/lang/Math", Cond.code Lib.Math.max.name Lib.Math.max.code 2 (some .int), Cond.methodLink RX2 114 yX1_precision, Cond.instanceMethod yX1_precision]
def wsX2_write_r2 : List Cond := [Cond.selects RX1 yX1_precision yX1_precision, Cond.initialized RX1, Cond.code yX1_precision cX1_precision 2 (some .int), Cond.fieldLink RX1 13 "DecimalRegisters$Natural" "size" "I", Cond.methodLink RX1 38 Lib.Math.max.name, Cond.methodLink RX1 34 yX1_figure, Cond.instanceMethod yX1_figure, Cond.selects RX1 yX1_figure yX1_figure, Cond.code yX1_figure cX1_figure 3 (some .int), Cond.fieldLink RX1 9 "DecimalRegisters$Natural" "limbs" "[J", Cond.fieldLink RX1 42 "DecimalRegisters$Natural" "TENS" "[J", Cond.constantLong RX1 45 (10), Cond.methodLink RX2 133 yX1_figure, Cond.methodLink RX2 92 yX1_isZero, Cond.instanceMethod yX1_isZero, Cond.selects RX1 yX1_isZero yX1_isZero, Cond.code yX1_isZero cX1_isZero 1 (some .boolean), Cond.methodLink RX2 147 yX2_appendZeros, Cond.instanceMethod yX2_appendZeros, Cond.selects RX2 yX2_appendZeros yX2_appendZeros, Cond.code yX2_appendZeros cX2_appendZeros 3 none]
def wsX2_write : List Cond := .code yX2_write cX2_write 3 (some .int) :: ((wsX2_write_r1 ++ wsX2_write_r2) ++ wsX20 ++ wsX00 ++ wsX10)
def wsX2_octet : List Cond := .code yX2_octet cX2_octet 2 (some .int) :: ([.fieldLink RX2 44 "DecimalRegisters" "textLength" "I", .fieldLink RX2 40 "DecimalRegisters" "text" "[C"] ++ wsX20)
def wsX3_init : List Cond := .code yX3_init cX3_init 1 none :: ([.methodLink RX3 1 objectInit, .instanceMethod objectInit, .code objectInit ⟨#[0xb1]⟩ 1 none, .arrayClass .int, .fieldLink RX3 7 "DecimalRegistersModel$Row" "d" "[I", .fieldLink RX3 13 "DecimalRegistersModel$Row" "n" "I"] ++ wsX30)
def wsX3_isZero : List Cond := .code yX3_isZero cX3_isZero 1 (some .boolean) :: ([.fieldLink RX3 13 "DecimalRegistersModel$Row" "n" "I", .fieldLink RX3 7 "DecimalRegistersModel$Row" "d" "[I"] ++ wsX30)
def wsX3_zero : List Cond := .code yX3_zero cX3_zero 1 none :: ([.fieldLink RX3 13 "DecimalRegistersModel$Row" "n" "I", .fieldLink RX3 7 "DecimalRegistersModel$Row" "d" "[I", .fieldLink RX3 17 "DecimalRegistersModel$Row" "minus" "Z"] ++ wsX30)
def wsX3_trim : List Cond := .code yX3_trim cX3_trim 1 none :: ([.fieldLink RX3 13 "DecimalRegistersModel$Row" "n" "I", .fieldLink RX3 7 "DecimalRegistersModel$Row" "d" "[I", .fieldLink RX3 17 "DecimalRegistersModel$Row" "minus" "Z", .methodLink RX3 21 yX3_isZero, .instanceMethod yX3_isZero, .selects RX3 yX3_isZero yX3_isZero, .initialized RX3, .code yX3_isZero cX3_isZero 1 (some .boolean)] ++ wsX30)
def wsX3_take : List Cond := .code yX3_take cX3_take 3 none :: ([.fieldLink RX3 13 "DecimalRegistersModel$Row" "n" "I", .fieldLink RX3 17 "DecimalRegistersModel$Row" "minus" "Z", .fieldLink RX3 25 "DecimalRegistersModel$Row" "scale" "I", .fieldLink RX3 7 "DecimalRegistersModel$Row" "d" "[I"] ++ wsX30)
def wsX3_up : List Cond := .code yX3_up cX3_up 3 none :: ([.fieldLink RX3 13 "DecimalRegistersModel$Row" "n" "I", .fieldLink RX3 7 "DecimalRegistersModel$Row" "d" "[I", .methodLink RX3 21 yX3_isZero, .instanceMethod yX3_isZero, .selects RX3 yX3_isZero yX3_isZero, .initialized RX3, .code yX3_isZero cX3_isZero 1 (some .boolean)] ++ wsX30)
def wsX3_ends : List Cond := .code yX3_ends cX3_ends 3 (some .boolean) :: ([.fieldLink RX3 13 "DecimalRegistersModel$Row" "n" "I", .fieldLink RX3 7 "DecimalRegistersModel$Row" "d" "[I"] ++ wsX30)
def wsX3_more : List Cond := .code yX3_more cX3_more 2 none :: ([.fieldLink RX3 13 "DecimalRegistersModel$Row" "n" "I", .fieldLink RX3 7 "DecimalRegistersModel$Row" "d" "[I"] ++ wsX30)
def wsX4_init : List Cond := .code yX4_init cX4_init 2 none :: ([.methodLink RX4 1 objectInit, .instanceMethod objectInit, .code objectInit ⟨#[0xb1]⟩ 1 none, .classLink RX4 7 RX3, .fieldLink RX4 9 "DecimalRegistersModel" "registers" "[LDecimalRegistersModel$Row;", .instantiable RX3 4, .initialized RX3, .fieldLink RX4 16 "DecimalRegistersModel" "a" "LDecimalRegistersModel$Row;", .fieldLink RX4 20 "DecimalRegistersModel" "b" "LDecimalRegistersModel$Row;", .fieldLink RX4 23 "DecimalRegistersModel" "c" "LDecimalRegistersModel$Row;", .fieldLink RX4 26 "DecimalRegistersModel" "e" "LDecimalRegistersModel$Row;", .arrayClass .int, .fieldLink RX4 29 "DecimalRegistersModel" "text" "[I", .instanceMethod yX3_init, .code yX3_init cX3_init 1 none, .methodLink RX3 1 objectInit, .fieldLink RX3 7 "DecimalRegistersModel$Row" "d" "[I", .fieldLink RX3 13 "DecimalRegistersModel$Row" "n" "I"] ++ wsX40 ++ wsX30)
def wsX4_is : List Cond := .code yX4_is cX4_is 1 (some .boolean) :: ([])
def wsX4_isScale : List Cond := .code yX4_isScale cX4_isScale 2 (some .boolean) :: ([.constantLong RX4 33 (-6), .constantLong RX4 35 (6)])
def wsX4_keep : List Cond := .code yX4_keep cX4_keep 3 (some .int) :: ([.fieldLink RX4 37 "DecimalRegistersModel$Row" "n" "I", .fieldLink RX4 41 "DecimalRegistersModel$Row" "scale" "I", .fieldLink RX4 9 "DecimalRegistersModel" "registers" "[LDecimalRegistersModel$Row;", .methodLink RX4 44 yX4_isScale, .static yX4_isScale, .initialized RX4, .code yX4_isScale cX4_isScale 2 (some .boolean), .constantLong RX4 33 (-6), .constantLong RX4 35 (6), .methodLink RX4 48 yX3_take, .instanceMethod yX3_take, .selects RX3 yX3_take yX3_take, .initialized RX3, .code yX3_take cX3_take 3 none, .fieldLink RX3 13 "DecimalRegistersModel$Row" "n" "I", .fieldLink RX3 17 "DecimalRegistersModel$Row" "minus" "Z", .fieldLink RX3 25 "DecimalRegistersModel$Row" "scale" "I", .fieldLink RX3 7 "DecimalRegistersModel$Row" "d" "[I"] ++ wsX30 ++ wsX40)
def wsX4_load : List Cond := .code yX4_load cX4_load 10 (some .int) :: ([.fieldLink RX4 9 "DecimalRegistersModel" "registers" "[LDecimalRegistersModel$Row;", .fieldLink RX4 37 "DecimalRegistersModel$Row" "n" "I", .constantLong RX4 56 (10), .fieldLink RX4 58 "DecimalRegistersModel$Row" "d" "[I", .fieldLink RX4 61 "DecimalRegistersModel$Row" "minus" "Z", .fieldLink RX4 41 "DecimalRegistersModel$Row" "scale" "I", .methodLink RX4 52 yX4_is, .static yX4_is, .initialized RX4, .code yX4_is cX4_is 1 (some .boolean), .methodLink RX4 44 yX4_isScale, .static yX4_isScale, .code yX4_isScale cX4_isScale 2 (some .boolean), .constantLong RX4 33 (-6), .constantLong RX4 35 (6)] ++ wsX40 ++ wsX30)
def wsX4_push_r1 : List Cond := [Cond.fieldLink RX4 16 "DecimalRegistersModel" "a" "LDecimalRegistersModel$Row;", Cond.fieldLink RX4 9 "DecimalRegistersModel" "registers" "[LDecimalRegistersModel$Row;", Cond.fieldLink RX4 37 "DecimalRegistersModel$Row" "n" "I", Cond.fieldLink RX4 58 "DecimalRegistersModel$Row" "d" "[I", Cond.constantLong RX4 56 (10), Cond.methodLink RX4 52 yX4_is, Cond.static yX4_is, Cond.initialized RX4, Cond.code yX4_is cX4_is 1 (some .boolean), Cond.methodLink RX4 48 yX3_take, Cond.instanceMethod yX3_take, Cond.selects RX3 yX3_take yX3_take, Cond.initialized RX3, Cond.code yX3_take cX3_take 3 none, Cond.fieldLink RX3 13 "DecimalRegistersModel$Row" "n" "I", Cond.fieldLink RX3 17 "DecimalRegistersModel$Row" "minus" "Z", Cond.fieldLink RX3 25 "DecimalRegistersModel$Row" "scale" "I", Cond.fieldLink RX3 7 "DecimalRegistersModel$Row" "d" "[I", Cond.methodLink RX4 65 yX3_trim, Cond.instanceMethod yX3_trim, Cond.selects RX3 yX3_trim yX3_trim, Cond.code yX3_trim cX3_trim 1 none, Cond.methodLink RX3 21 yX3_isZero, Cond.instanceMethod yX3_isZero]
def wsX4_push_r2 : List Cond := [Cond.selects RX3 yX3_isZero yX3_isZero, Cond.code yX3_isZero cX3_isZero 1 (some .boolean), Cond.methodLink RX4 68 yX4_keep, Cond.instanceMethod yX4_keep, Cond.selects RX4 yX4_keep yX4_keep, Cond.code yX4_keep cX4_keep 3 (some .int), Cond.fieldLink RX4 41 "DecimalRegistersModel$Row" "scale" "I", Cond.methodLink RX4 44 yX4_isScale, Cond.static yX4_isScale, Cond.code yX4_isScale cX4_isScale 2 (some .boolean), Cond.constantLong RX4 33 (-6), Cond.constantLong RX4 35 (6)]
def wsX4_push : List Cond := .code yX4_push cX4_push 9 (some .int) :: ((wsX4_push_r1 ++ wsX4_push_r2) ++ wsX40 ++ wsX30)
def wsX4_sizes : List Cond := .code yX4_sizes cX4_sizes 3 (some .int) :: ([.fieldLink RX4 37 "DecimalRegistersModel$Row" "n" "I", .fieldLink RX4 58 "DecimalRegistersModel$Row" "d" "[I"] ++ wsX30)
def wsX4_align : List Cond := .code yX4_align cX4_align 4 none :: ([.fieldLink RX4 16 "DecimalRegistersModel" "a" "LDecimalRegistersModel$Row;", .fieldLink RX4 9 "DecimalRegistersModel" "registers" "[LDecimalRegistersModel$Row;", .fieldLink RX4 20 "DecimalRegistersModel" "b" "LDecimalRegistersModel$Row;", .fieldLink RX4 41 "DecimalRegistersModel$Row" "scale" "I", .methodLink RX4 48 yX3_take, .instanceMethod yX3_take, .selects RX3 yX3_take yX3_take, .initialized RX3, .code yX3_take cX3_take 3 none, .fieldLink RX3 13 "DecimalRegistersModel$Row" "n" "I", .fieldLink RX3 17 "DecimalRegistersModel$Row" "minus" "Z", .fieldLink RX3 25 "DecimalRegistersModel$Row" "scale" "I", .fieldLink RX3 7 "DecimalRegistersModel$Row" "d" "[I", .methodLink RX4 72 yX3_up, .instanceMethod yX3_up, .selects RX3 yX3_up yX3_up, .code yX3_up cX3_up 3 none, .methodLink RX3 21 yX3_isZero, .instanceMethod yX3_isZero, .selects RX3 yX3_isZero yX3_isZero, .code yX3_isZero cX3_isZero 1 (some .boolean)] ++ wsX40 ++ wsX30)
def wsX4_order_r1 : List Cond := [Cond.fieldLink RX4 16 "DecimalRegistersModel" "a" "LDecimalRegistersModel$Row;", Cond.fieldLink RX4 61 "DecimalRegistersModel$Row" "minus" "Z", Cond.fieldLink RX4 20 "DecimalRegistersModel" "b" "LDecimalRegistersModel$Row;", Cond.methodLink RX4 76 yX4_align, Cond.instanceMethod yX4_align, Cond.selects RX4 yX4_align yX4_align, Cond.initialized RX4, Cond.code yX4_align cX4_align 4 none, Cond.fieldLink RX4 9 "DecimalRegistersModel" "registers" "[LDecimalRegistersModel$Row;", Cond.fieldLink RX4 41 "DecimalRegistersModel$Row" "scale" "I", Cond.methodLink RX4 48 yX3_take, Cond.instanceMethod yX3_take, Cond.selects RX3 yX3_take yX3_take, Cond.initialized RX3, Cond.code yX3_take cX3_take 3 none, Cond.fieldLink RX3 13 "DecimalRegistersModel$Row" "n" "I", Cond.fieldLink RX3 17 "DecimalRegistersModel$Row" "minus" "Z", Cond.fieldLink RX3 25 "DecimalRegistersModel$Row" "scale" "I", Cond.fieldLink RX3 7 "DecimalRegistersModel$Row" "d" "[I", Cond.methodLink RX4 72 yX3_up, Cond.instanceMethod yX3_up, Cond.selects RX3 yX3_up yX3_up, Cond.code yX3_up cX3_up 3 none, Cond.methodLink RX3 21 yX3_isZero]
def wsX4_order_r2 : List Cond := [Cond.instanceMethod yX3_isZero, Cond.selects RX3 yX3_isZero yX3_isZero, Cond.code yX3_isZero cX3_isZero 1 (some .boolean), Cond.methodLink RX4 80 yX4_sizes, Cond.static yX4_sizes, Cond.code yX4_sizes cX4_sizes 3 (some .int), Cond.fieldLink RX4 37 "DecimalRegistersModel$Row" "n" "I", Cond.fieldLink RX4 58 "DecimalRegistersModel$Row" "d" "[I"]
def wsX4_order : List Cond := .code yX4_order cX4_order 4 (some .int) :: ((wsX4_order_r1 ++ wsX4_order_r2) ++ wsX40 ++ wsX30)
def wsX4_sum : List Cond := .code yX4_sum cX4_sum 8 none :: ([.fieldLink RX4 20 "DecimalRegistersModel" "b" "LDecimalRegistersModel$Row;", .fieldLink RX4 61 "DecimalRegistersModel$Row" "minus" "Z", .fieldLink RX4 23 "DecimalRegistersModel" "c" "LDecimalRegistersModel$Row;", .fieldLink RX4 16 "DecimalRegistersModel" "a" "LDecimalRegistersModel$Row;", .fieldLink RX4 41 "DecimalRegistersModel$Row" "scale" "I", .fieldLink RX4 37 "DecimalRegistersModel$Row" "n" "I", .fieldLink RX4 58 "DecimalRegistersModel$Row" "d" "[I", .methodLink RX4 84 yX3_isZero, .instanceMethod yX3_isZero, .selects RX3 yX3_isZero yX3_isZero, .initialized RX3, .code yX3_isZero cX3_isZero 1 (some .boolean), .fieldLink RX3 13 "DecimalRegistersModel$Row" "n" "I", .fieldLink RX3 7 "DecimalRegistersModel$Row" "d" "[I", .methodLink RX4 80 yX4_sizes, .static yX4_sizes, .initialized RX4, .code yX4_sizes cX4_sizes 3 (some .int), .methodLink RX4 65 yX3_trim, .instanceMethod yX3_trim, .selects RX3 yX3_trim yX3_trim, .code yX3_trim cX3_trim 1 none, .fieldLink RX3 17 "DecimalRegistersModel$Row" "minus" "Z", .methodLink RX3 21 yX3_isZero] ++ wsX40 ++ wsX30)
def wsX4_product : List Cond := .code yX4_product cX4_product 7 none :: ([.fieldLink RX4 37 "DecimalRegistersModel$Row" "n" "I", .fieldLink RX4 58 "DecimalRegistersModel$Row" "d" "[I", .fieldLink RX4 61 "DecimalRegistersModel$Row" "minus" "Z", .fieldLink RX4 41 "DecimalRegistersModel$Row" "scale" "I", .methodLink RX4 65 yX3_trim, .instanceMethod yX3_trim, .selects RX3 yX3_trim yX3_trim, .initialized RX3, .code yX3_trim cX3_trim 1 none, .fieldLink RX3 13 "DecimalRegistersModel$Row" "n" "I", .fieldLink RX3 7 "DecimalRegistersModel$Row" "d" "[I", .fieldLink RX3 17 "DecimalRegistersModel$Row" "minus" "Z", .methodLink RX3 21 yX3_isZero, .instanceMethod yX3_isZero, .selects RX3 yX3_isZero yX3_isZero, .code yX3_isZero cX3_isZero 1 (some .boolean)] ++ wsX30)
def wsX4_reckon_r1 : List Cond := [Cond.fieldLink RX4 16 "DecimalRegistersModel" "a" "LDecimalRegistersModel$Row;", Cond.fieldLink RX4 9 "DecimalRegistersModel" "registers" "[LDecimalRegistersModel$Row;", Cond.fieldLink RX4 23 "DecimalRegistersModel" "c" "LDecimalRegistersModel$Row;", Cond.methodLink RX4 52 yX4_is, Cond.static yX4_is, Cond.initialized RX4, Cond.code yX4_is cX4_is 1 (some .boolean), Cond.methodLink RX4 88 yX4_order, Cond.instanceMethod yX4_order, Cond.selects RX4 yX4_order yX4_order, Cond.code yX4_order cX4_order 4 (some .int), Cond.fieldLink RX4 61 "DecimalRegistersModel$Row" "minus" "Z", Cond.fieldLink RX4 20 "DecimalRegistersModel" "b" "LDecimalRegistersModel$Row;", Cond.methodLink RX4 76 yX4_align, Cond.instanceMethod yX4_align, Cond.selects RX4 yX4_align yX4_align, Cond.code yX4_align cX4_align 4 none, Cond.fieldLink RX4 41 "DecimalRegistersModel$Row" "scale" "I", Cond.methodLink RX4 48 yX3_take, Cond.instanceMethod yX3_take, Cond.selects RX3 yX3_take yX3_take, Cond.initialized RX3, Cond.code yX3_take cX3_take 3 none, Cond.fieldLink RX3 13 "DecimalRegistersModel$Row" "n" "I"]
def wsX4_reckon_r2 : List Cond := [Cond.fieldLink RX3 17 "DecimalRegistersModel$Row" "minus" "Z", Cond.fieldLink RX3 25 "DecimalRegistersModel$Row" "scale" "I", Cond.fieldLink RX3 7 "DecimalRegistersModel$Row" "d" "[I", Cond.methodLink RX4 72 yX3_up, Cond.instanceMethod yX3_up, Cond.selects RX3 yX3_up yX3_up, Cond.code yX3_up cX3_up 3 none, Cond.methodLink RX3 21 yX3_isZero, Cond.instanceMethod yX3_isZero, Cond.selects RX3 yX3_isZero yX3_isZero, Cond.code yX3_isZero cX3_isZero 1 (some .boolean), Cond.methodLink RX4 80 yX4_sizes, Cond.static yX4_sizes, Cond.code yX4_sizes cX4_sizes 3 (some .int), Cond.fieldLink RX4 37 "DecimalRegistersModel$Row" "n" "I", Cond.fieldLink RX4 58 "DecimalRegistersModel$Row" "d" "[I", Cond.methodLink RX4 68 yX4_keep, Cond.instanceMethod yX4_keep, Cond.selects RX4 yX4_keep yX4_keep, Cond.code yX4_keep cX4_keep 3 (some .int), Cond.methodLink RX4 44 yX4_isScale, Cond.static yX4_isScale, Cond.code yX4_isScale cX4_isScale 2 (some .boolean), Cond.constantLong RX4 33 (-6)]
def wsX4_reckon_r3 : List Cond := [Cond.constantLong RX4 35 (6), Cond.methodLink RX4 92 yX4_product, Cond.static yX4_product, Cond.code yX4_product cX4_product 7 none, Cond.methodLink RX4 65 yX3_trim, Cond.instanceMethod yX3_trim, Cond.selects RX3 yX3_trim yX3_trim, Cond.code yX3_trim cX3_trim 1 none, Cond.methodLink RX4 96 yX4_sum, Cond.instanceMethod yX4_sum, Cond.selects RX4 yX4_sum yX4_sum, Cond.code yX4_sum cX4_sum 8 none, Cond.methodLink RX4 84 yX3_isZero]
def wsX4_reckon : List Cond := .code yX4_reckon cX4_reckon 7 (some .int) :: ((wsX4_reckon_r1 ++ (wsX4_reckon_r2 ++ wsX4_reckon_r3)) ++ wsX40 ++ wsX30)
def wsX4_over : List Cond := .code yX4_over cX4_over 6 none :: ([.fieldLink RX4 23 "DecimalRegistersModel" "c" "LDecimalRegistersModel$Row;", .fieldLink RX4 16 "DecimalRegistersModel" "a" "LDecimalRegistersModel$Row;", .fieldLink RX4 37 "DecimalRegistersModel$Row" "n" "I", .fieldLink RX4 26 "DecimalRegistersModel" "e" "LDecimalRegistersModel$Row;", .fieldLink RX4 58 "DecimalRegistersModel$Row" "d" "[I", .fieldLink RX4 20 "DecimalRegistersModel" "b" "LDecimalRegistersModel$Row;", .methodLink RX4 80 yX4_sizes, .static yX4_sizes, .initialized RX4, .code yX4_sizes cX4_sizes 3 (some .int)] ++ wsX40 ++ wsX30)
def wsX4_turns : List Cond := .code yX4_turns cX4_turns 4 (some .boolean) :: ([])
def wsX4_divide_r1 : List Cond := [Cond.fieldLink RX4 9 "DecimalRegistersModel" "registers" "[LDecimalRegistersModel$Row;", Cond.fieldLink RX4 16 "DecimalRegistersModel" "a" "LDecimalRegistersModel$Row;", Cond.fieldLink RX4 20 "DecimalRegistersModel" "b" "LDecimalRegistersModel$Row;", Cond.fieldLink RX4 61 "DecimalRegistersModel$Row" "minus" "Z", Cond.fieldLink RX4 41 "DecimalRegistersModel$Row" "scale" "I", Cond.fieldLink RX4 37 "DecimalRegistersModel$Row" "n" "I", Cond.fieldLink RX4 58 "DecimalRegistersModel$Row" "d" "[I", Cond.fieldLink RX4 23 "DecimalRegistersModel" "c" "LDecimalRegistersModel$Row;", Cond.methodLink RX4 52 yX4_is, Cond.static yX4_is, Cond.initialized RX4, Cond.code yX4_is cX4_is 1 (some .boolean), Cond.methodLink RX4 84 yX3_isZero, Cond.instanceMethod yX3_isZero, Cond.selects RX3 yX3_isZero yX3_isZero, Cond.initialized RX3, Cond.code yX3_isZero cX3_isZero 1 (some .boolean), Cond.fieldLink RX3 13 "DecimalRegistersModel$Row" "n" "I", Cond.fieldLink RX3 7 "DecimalRegistersModel$Row" "d" "[I", Cond.methodLink RX4 44 yX4_isScale, Cond.static yX4_isScale, Cond.code yX4_isScale cX4_isScale 2 (some .boolean), Cond.constantLong RX4 33 (-6), Cond.constantLong RX4 35 (6)]
def wsX4_divide_r2 : List Cond := [Cond.methodLink RX4 48 yX3_take, Cond.instanceMethod yX3_take, Cond.selects RX3 yX3_take yX3_take, Cond.code yX3_take cX3_take 3 none, Cond.fieldLink RX3 17 "DecimalRegistersModel$Row" "minus" "Z", Cond.fieldLink RX3 25 "DecimalRegistersModel$Row" "scale" "I", Cond.methodLink RX4 72 yX3_up, Cond.instanceMethod yX3_up, Cond.selects RX3 yX3_up yX3_up, Cond.code yX3_up cX3_up 3 none, Cond.methodLink RX3 21 yX3_isZero, Cond.methodLink RX4 100 yX4_over, Cond.instanceMethod yX4_over, Cond.selects RX4 yX4_over yX4_over, Cond.code yX4_over cX4_over 6 none, Cond.fieldLink RX4 26 "DecimalRegistersModel" "e" "LDecimalRegistersModel$Row;", Cond.methodLink RX4 80 yX4_sizes, Cond.static yX4_sizes, Cond.code yX4_sizes cX4_sizes 3 (some .int), Cond.methodLink RX4 103 yX4_turns, Cond.static yX4_turns, Cond.code yX4_turns cX4_turns 4 (some .boolean), Cond.methodLink RX4 107 yX3_more, Cond.instanceMethod yX3_more]
def wsX4_divide_r3 : List Cond := [Cond.selects RX3 yX3_more yX3_more, Cond.code yX3_more cX3_more 2 none, Cond.methodLink RX4 65 yX3_trim, Cond.instanceMethod yX3_trim, Cond.selects RX3 yX3_trim yX3_trim, Cond.code yX3_trim cX3_trim 1 none, Cond.methodLink RX4 68 yX4_keep, Cond.instanceMethod yX4_keep, Cond.selects RX4 yX4_keep yX4_keep, Cond.code yX4_keep cX4_keep 3 (some .int)]
def wsX4_divide : List Cond := .code yX4_divide cX4_divide 11 (some .int) :: ((wsX4_divide_r1 ++ (wsX4_divide_r2 ++ wsX4_divide_r3)) ++ wsX40 ++ wsX30)
def wsX4_part_r1 : List Cond := [Cond.fieldLink RX4 9 "DecimalRegistersModel" "registers" "[LDecimalRegistersModel$Row;", Cond.fieldLink RX4 16 "DecimalRegistersModel" "a" "LDecimalRegistersModel$Row;", Cond.fieldLink RX4 61 "DecimalRegistersModel$Row" "minus" "Z", Cond.fieldLink RX4 23 "DecimalRegistersModel" "c" "LDecimalRegistersModel$Row;", Cond.fieldLink RX4 20 "DecimalRegistersModel" "b" "LDecimalRegistersModel$Row;", Cond.fieldLink RX4 41 "DecimalRegistersModel$Row" "scale" "I", Cond.fieldLink RX4 37 "DecimalRegistersModel$Row" "n" "I", Cond.methodLink RX4 52 yX4_is, Cond.static yX4_is, Cond.initialized RX4, Cond.code yX4_is cX4_is 1 (some .boolean), Cond.methodLink RX4 84 yX3_isZero, Cond.instanceMethod yX3_isZero, Cond.selects RX3 yX3_isZero yX3_isZero, Cond.initialized RX3, Cond.code yX3_isZero cX3_isZero 1 (some .boolean), Cond.fieldLink RX3 13 "DecimalRegistersModel$Row" "n" "I", Cond.fieldLink RX3 7 "DecimalRegistersModel$Row" "d" "[I", Cond.methodLink RX4 76 yX4_align, Cond.instanceMethod yX4_align, Cond.selects RX4 yX4_align yX4_align, Cond.code yX4_align cX4_align 4 none, Cond.methodLink RX4 48 yX3_take, Cond.instanceMethod yX3_take]
def wsX4_part_r2 : List Cond := [Cond.selects RX3 yX3_take yX3_take, Cond.code yX3_take cX3_take 3 none, Cond.fieldLink RX3 17 "DecimalRegistersModel$Row" "minus" "Z", Cond.fieldLink RX3 25 "DecimalRegistersModel$Row" "scale" "I", Cond.methodLink RX4 72 yX3_up, Cond.instanceMethod yX3_up, Cond.selects RX3 yX3_up yX3_up, Cond.code yX3_up cX3_up 3 none, Cond.methodLink RX3 21 yX3_isZero, Cond.methodLink RX4 100 yX4_over, Cond.instanceMethod yX4_over, Cond.selects RX4 yX4_over yX4_over, Cond.code yX4_over cX4_over 6 none, Cond.fieldLink RX4 26 "DecimalRegistersModel" "e" "LDecimalRegistersModel$Row;", Cond.fieldLink RX4 58 "DecimalRegistersModel$Row" "d" "[I", Cond.methodLink RX4 80 yX4_sizes, Cond.static yX4_sizes, Cond.code yX4_sizes cX4_sizes 3 (some .int), Cond.methodLink RX4 65 yX3_trim, Cond.instanceMethod yX3_trim, Cond.selects RX3 yX3_trim yX3_trim, Cond.code yX3_trim cX3_trim 1 none]
def wsX4_part : List Cond := .code yX4_part cX4_part 7 (some .int) :: ((wsX4_part_r1 ++ wsX4_part_r2) ++ wsX40 ++ wsX30)
def wsX4_cut : List Cond := .code yX4_cut cX4_cut 8 (some .boolean) :: ([.fieldLink RX4 16 "DecimalRegistersModel" "a" "LDecimalRegistersModel$Row;", .fieldLink RX4 37 "DecimalRegistersModel$Row" "n" "I", .fieldLink RX4 58 "DecimalRegistersModel$Row" "d" "[I", .fieldLink RX4 61 "DecimalRegistersModel$Row" "minus" "Z", .methodLink RX4 110 yX3_ends, .instanceMethod yX3_ends, .selects RX3 yX3_ends yX3_ends, .initialized RX3, .code yX3_ends cX3_ends 3 (some .boolean), .fieldLink RX3 13 "DecimalRegistersModel$Row" "n" "I", .fieldLink RX3 7 "DecimalRegistersModel$Row" "d" "[I", .methodLink RX4 103 yX4_turns, .static yX4_turns, .initialized RX4, .code yX4_turns cX4_turns 4 (some .boolean), .methodLink RX4 107 yX3_more, .instanceMethod yX3_more, .selects RX3 yX3_more yX3_more, .code yX3_more cX3_more 2 none] ++ wsX40 ++ wsX30)
def wsX4_scale_r1 : List Cond := [Cond.fieldLink RX4 16 "DecimalRegistersModel" "a" "LDecimalRegistersModel$Row;", Cond.fieldLink RX4 9 "DecimalRegistersModel" "registers" "[LDecimalRegistersModel$Row;", Cond.fieldLink RX4 41 "DecimalRegistersModel$Row" "scale" "I", Cond.methodLink RX4 52 yX4_is, Cond.static yX4_is, Cond.initialized RX4, Cond.code yX4_is cX4_is 1 (some .boolean), Cond.methodLink RX4 44 yX4_isScale, Cond.static yX4_isScale, Cond.code yX4_isScale cX4_isScale 2 (some .boolean), Cond.constantLong RX4 33 (-6), Cond.constantLong RX4 35 (6), Cond.methodLink RX4 48 yX3_take, Cond.instanceMethod yX3_take, Cond.selects RX3 yX3_take yX3_take, Cond.initialized RX3, Cond.code yX3_take cX3_take 3 none, Cond.fieldLink RX3 13 "DecimalRegistersModel$Row" "n" "I", Cond.fieldLink RX3 17 "DecimalRegistersModel$Row" "minus" "Z", Cond.fieldLink RX3 25 "DecimalRegistersModel$Row" "scale" "I", Cond.fieldLink RX3 7 "DecimalRegistersModel$Row" "d" "[I", Cond.methodLink RX4 72 yX3_up, Cond.instanceMethod yX3_up, Cond.selects RX3 yX3_up yX3_up]
def wsX4_scale_r2 : List Cond := [Cond.code yX3_up cX3_up 3 none, Cond.methodLink RX3 21 yX3_isZero, Cond.instanceMethod yX3_isZero, Cond.selects RX3 yX3_isZero yX3_isZero, Cond.code yX3_isZero cX3_isZero 1 (some .boolean), Cond.methodLink RX4 113 yX4_cut, Cond.instanceMethod yX4_cut, Cond.selects RX4 yX4_cut yX4_cut, Cond.code yX4_cut cX4_cut 8 (some .boolean), Cond.fieldLink RX4 37 "DecimalRegistersModel$Row" "n" "I", Cond.fieldLink RX4 58 "DecimalRegistersModel$Row" "d" "[I", Cond.fieldLink RX4 61 "DecimalRegistersModel$Row" "minus" "Z", Cond.methodLink RX4 110 yX3_ends, Cond.instanceMethod yX3_ends, Cond.selects RX3 yX3_ends yX3_ends, Cond.code yX3_ends cX3_ends 3 (some .boolean), Cond.methodLink RX4 103 yX4_turns, Cond.static yX4_turns, Cond.code yX4_turns cX4_turns 4 (some .boolean), Cond.methodLink RX4 107 yX3_more, Cond.instanceMethod yX3_more, Cond.selects RX3 yX3_more yX3_more, Cond.code yX3_more cX3_more 2 none, Cond.methodLink RX4 65 yX3_trim]
def wsX4_scale_r3 : List Cond := [Cond.instanceMethod yX3_trim, Cond.selects RX3 yX3_trim yX3_trim, Cond.code yX3_trim cX3_trim 1 none, Cond.methodLink RX4 68 yX4_keep, Cond.instanceMethod yX4_keep, Cond.selects RX4 yX4_keep yX4_keep, Cond.code yX4_keep cX4_keep 3 (some .int)]
def wsX4_scale : List Cond := .code yX4_scale cX4_scale 5 (some .int) :: ((wsX4_scale_r1 ++ (wsX4_scale_r2 ++ wsX4_scale_r3)) ++ wsX40 ++ wsX30)
def wsX4_round_r1 : List Cond := [Cond.fieldLink RX4 9 "DecimalRegistersModel" "registers" "[LDecimalRegistersModel$Row;", Cond.fieldLink RX4 37 "DecimalRegistersModel$Row" "n" "I", Cond.fieldLink RX4 16 "DecimalRegistersModel" "a" "LDecimalRegistersModel$Row;", Cond.fieldLink RX4 41 "DecimalRegistersModel$Row" "scale" "I", Cond.methodLink RX4 52 yX4_is, Cond.static yX4_is, Cond.initialized RX4, Cond.code yX4_is cX4_is 1 (some .boolean), Cond.methodLink RX4 48 yX3_take, Cond.instanceMethod yX3_take, Cond.selects RX3 yX3_take yX3_take, Cond.initialized RX3, Cond.code yX3_take cX3_take 3 none, Cond.fieldLink RX3 13 "DecimalRegistersModel$Row" "n" "I", Cond.fieldLink RX3 17 "DecimalRegistersModel$Row" "minus" "Z", Cond.fieldLink RX3 25 "DecimalRegistersModel$Row" "scale" "I", Cond.fieldLink RX3 7 "DecimalRegistersModel$Row" "d" "[I", Cond.methodLink RX4 113 yX4_cut, Cond.instanceMethod yX4_cut, Cond.selects RX4 yX4_cut yX4_cut, Cond.code yX4_cut cX4_cut 8 (some .boolean), Cond.fieldLink RX4 58 "DecimalRegistersModel$Row" "d" "[I", Cond.fieldLink RX4 61 "DecimalRegistersModel$Row" "minus" "Z", Cond.methodLink RX4 110 yX3_ends]
def wsX4_round_r2 : List Cond := [Cond.instanceMethod yX3_ends, Cond.selects RX3 yX3_ends yX3_ends, Cond.code yX3_ends cX3_ends 3 (some .boolean), Cond.methodLink RX4 103 yX4_turns, Cond.static yX4_turns, Cond.code yX4_turns cX4_turns 4 (some .boolean), Cond.methodLink RX4 107 yX3_more, Cond.instanceMethod yX3_more, Cond.selects RX3 yX3_more yX3_more, Cond.code yX3_more cX3_more 2 none, Cond.methodLink RX4 68 yX4_keep, Cond.instanceMethod yX4_keep, Cond.selects RX4 yX4_keep yX4_keep, Cond.code yX4_keep cX4_keep 3 (some .int), Cond.methodLink RX4 44 yX4_isScale, Cond.static yX4_isScale, Cond.code yX4_isScale cX4_isScale 2 (some .boolean), Cond.constantLong RX4 33 (-6), Cond.constantLong RX4 35 (6)]
def wsX4_round : List Cond := .code yX4_round cX4_round 6 (some .int) :: ((wsX4_round_r1 ++ wsX4_round_r2) ++ wsX40 ++ wsX30)
def wsX4_turn_r1 : List Cond := [Cond.fieldLink RX4 16 "DecimalRegistersModel" "a" "LDecimalRegistersModel$Row;", Cond.fieldLink RX4 9 "DecimalRegistersModel" "registers" "[LDecimalRegistersModel$Row;", Cond.fieldLink RX4 61 "DecimalRegistersModel$Row" "minus" "Z", Cond.fieldLink RX4 37 "DecimalRegistersModel$Row" "n" "I", Cond.fieldLink RX4 58 "DecimalRegistersModel$Row" "d" "[I", Cond.fieldLink RX4 41 "DecimalRegistersModel$Row" "scale" "I", Cond.methodLink RX4 52 yX4_is, Cond.static yX4_is, Cond.initialized RX4, Cond.code yX4_is cX4_is 1 (some .boolean), Cond.methodLink RX4 48 yX3_take, Cond.instanceMethod yX3_take, Cond.selects RX3 yX3_take yX3_take, Cond.initialized RX3, Cond.code yX3_take cX3_take 3 none, Cond.fieldLink RX3 13 "DecimalRegistersModel$Row" "n" "I", Cond.fieldLink RX3 17 "DecimalRegistersModel$Row" "minus" "Z", Cond.fieldLink RX3 25 "DecimalRegistersModel$Row" "scale" "I", Cond.fieldLink RX3 7 "DecimalRegistersModel$Row" "d" "[I", Cond.methodLink RX4 84 yX3_isZero, Cond.instanceMethod yX3_isZero, Cond.selects RX3 yX3_isZero yX3_isZero, Cond.code yX3_isZero cX3_isZero 1 (some .boolean), Cond.methodLink RX4 113 yX4_cut]
def wsX4_turn_r2 : List Cond := [Cond.instanceMethod yX4_cut, Cond.selects RX4 yX4_cut yX4_cut, Cond.code yX4_cut cX4_cut 8 (some .boolean), Cond.methodLink RX4 110 yX3_ends, Cond.instanceMethod yX3_ends, Cond.selects RX3 yX3_ends yX3_ends, Cond.code yX3_ends cX3_ends 3 (some .boolean), Cond.methodLink RX4 103 yX4_turns, Cond.static yX4_turns, Cond.code yX4_turns cX4_turns 4 (some .boolean), Cond.methodLink RX4 107 yX3_more, Cond.instanceMethod yX3_more, Cond.selects RX3 yX3_more yX3_more, Cond.code yX3_more cX3_more 2 none, Cond.methodLink RX4 68 yX4_keep, Cond.instanceMethod yX4_keep, Cond.selects RX4 yX4_keep yX4_keep, Cond.code yX4_keep cX4_keep 3 (some .int), Cond.methodLink RX4 44 yX4_isScale, Cond.static yX4_isScale, Cond.code yX4_isScale cX4_isScale 2 (some .boolean), Cond.constantLong RX4 33 (-6), Cond.constantLong RX4 35 (6)]
def wsX4_turn : List Cond := .code yX4_turn cX4_turn 5 (some .int) :: ((wsX4_turn_r1 ++ wsX4_turn_r2) ++ wsX40 ++ wsX30)
def wsX4_move_r1 : List Cond := [Cond.fieldLink RX4 16 "DecimalRegistersModel" "a" "LDecimalRegistersModel$Row;", Cond.fieldLink RX4 9 "DecimalRegistersModel" "registers" "[LDecimalRegistersModel$Row;", Cond.fieldLink RX4 41 "DecimalRegistersModel$Row" "scale" "I", Cond.methodLink RX4 52 yX4_is, Cond.static yX4_is, Cond.initialized RX4, Cond.code yX4_is cX4_is 1 (some .boolean), Cond.methodLink RX4 48 yX3_take, Cond.instanceMethod yX3_take, Cond.selects RX3 yX3_take yX3_take, Cond.initialized RX3, Cond.code yX3_take cX3_take 3 none, Cond.fieldLink RX3 13 "DecimalRegistersModel$Row" "n" "I", Cond.fieldLink RX3 17 "DecimalRegistersModel$Row" "minus" "Z", Cond.fieldLink RX3 25 "DecimalRegistersModel$Row" "scale" "I", Cond.fieldLink RX3 7 "DecimalRegistersModel$Row" "d" "[I", Cond.methodLink RX4 72 yX3_up, Cond.instanceMethod yX3_up, Cond.selects RX3 yX3_up yX3_up, Cond.code yX3_up cX3_up 3 none, Cond.methodLink RX3 21 yX3_isZero, Cond.instanceMethod yX3_isZero, Cond.selects RX3 yX3_isZero yX3_isZero, Cond.code yX3_isZero cX3_isZero 1 (some .boolean)]
def wsX4_move_r2 : List Cond := [Cond.methodLink RX4 68 yX4_keep, Cond.instanceMethod yX4_keep, Cond.selects RX4 yX4_keep yX4_keep, Cond.code yX4_keep cX4_keep 3 (some .int), Cond.fieldLink RX4 37 "DecimalRegistersModel$Row" "n" "I", Cond.methodLink RX4 44 yX4_isScale, Cond.static yX4_isScale, Cond.code yX4_isScale cX4_isScale 2 (some .boolean), Cond.constantLong RX4 33 (-6), Cond.constantLong RX4 35 (6)]
def wsX4_move : List Cond := .code yX4_move cX4_move 5 (some .int) :: ((wsX4_move_r1 ++ wsX4_move_r2) ++ wsX40 ++ wsX30)
def wsX4_power_r1 : List Cond := [Cond.fieldLink RX4 9 "DecimalRegistersModel" "registers" "[LDecimalRegistersModel$Row;", Cond.fieldLink RX4 37 "DecimalRegistersModel$Row" "n" "I", Cond.fieldLink RX4 16 "DecimalRegistersModel" "a" "LDecimalRegistersModel$Row;", Cond.fieldLink RX4 58 "DecimalRegistersModel$Row" "d" "[I", Cond.fieldLink RX4 41 "DecimalRegistersModel$Row" "scale" "I", Cond.fieldLink RX4 23 "DecimalRegistersModel" "c" "LDecimalRegistersModel$Row;", Cond.methodLink RX4 52 yX4_is, Cond.static yX4_is, Cond.initialized RX4, Cond.code yX4_is cX4_is 1 (some .boolean), Cond.methodLink RX4 117 yX3_zero, Cond.instanceMethod yX3_zero, Cond.selects RX3 yX3_zero yX3_zero, Cond.initialized RX3, Cond.code yX3_zero cX3_zero 1 none, Cond.fieldLink RX3 13 "DecimalRegistersModel$Row" "n" "I", Cond.fieldLink RX3 7 "DecimalRegistersModel$Row" "d" "[I", Cond.fieldLink RX3 17 "DecimalRegistersModel$Row" "minus" "Z", Cond.methodLink RX4 92 yX4_product, Cond.static yX4_product, Cond.code yX4_product cX4_product 7 none, Cond.fieldLink RX4 61 "DecimalRegistersModel$Row" "minus" "Z", Cond.methodLink RX4 65 yX3_trim, Cond.instanceMethod yX3_trim]
def wsX4_power_r2 : List Cond := [Cond.selects RX3 yX3_trim yX3_trim, Cond.code yX3_trim cX3_trim 1 none, Cond.methodLink RX3 21 yX3_isZero, Cond.instanceMethod yX3_isZero, Cond.selects RX3 yX3_isZero yX3_isZero, Cond.code yX3_isZero cX3_isZero 1 (some .boolean), Cond.methodLink RX4 48 yX3_take, Cond.instanceMethod yX3_take, Cond.selects RX3 yX3_take yX3_take, Cond.code yX3_take cX3_take 3 none, Cond.fieldLink RX3 25 "DecimalRegistersModel$Row" "scale" "I", Cond.methodLink RX4 68 yX4_keep, Cond.instanceMethod yX4_keep, Cond.selects RX4 yX4_keep yX4_keep, Cond.code yX4_keep cX4_keep 3 (some .int), Cond.methodLink RX4 44 yX4_isScale, Cond.static yX4_isScale, Cond.code yX4_isScale cX4_isScale 2 (some .boolean), Cond.constantLong RX4 33 (-6), Cond.constantLong RX4 35 (6)]
def wsX4_power : List Cond := .code yX4_power cX4_power 5 (some .int) :: ((wsX4_power_r1 ++ wsX4_power_r2) ++ wsX40 ++ wsX30)
def wsX4_compare_r1 : List Cond := [Cond.methodLink RX4 52 yX4_is, Cond.static yX4_is, Cond.initialized RX4, Cond.code yX4_is cX4_is 1 (some .boolean), Cond.methodLink RX4 88 yX4_order, Cond.instanceMethod yX4_order, Cond.selects RX4 yX4_order yX4_order, Cond.code yX4_order cX4_order 4 (some .int), Cond.fieldLink RX4 16 "DecimalRegistersModel" "a" "LDecimalRegistersModel$Row;", Cond.fieldLink RX4 61 "DecimalRegistersModel$Row" "minus" "Z", Cond.fieldLink RX4 20 "DecimalRegistersModel" "b" "LDecimalRegistersModel$Row;", Cond.methodLink RX4 76 yX4_align, Cond.instanceMethod yX4_align, Cond.selects RX4 yX4_align yX4_align, Cond.code yX4_align cX4_align 4 none, Cond.fieldLink RX4 9 "DecimalRegistersModel" "registers" "[LDecimalRegistersModel$Row;", Cond.fieldLink RX4 41 "DecimalRegistersModel$Row" "scale" "I", Cond.methodLink RX4 48 yX3_take, Cond.instanceMethod yX3_take, Cond.selects RX3 yX3_take yX3_take, Cond.initialized RX3, Cond.code yX3_take cX3_take 3 none, Cond.fieldLink RX3 13 "DecimalRegistersModel$Row" "n" "I", Cond.fieldLink RX3 17 "DecimalRegistersModel$Row" "minus" "Z"]
def wsX4_compare_r2 : List Cond := [Cond.fieldLink RX3 25 "DecimalRegistersModel$Row" "scale" "I", Cond.fieldLink RX3 7 "DecimalRegistersModel$Row" "d" "[I", Cond.methodLink RX4 72 yX3_up, Cond.instanceMethod yX3_up, Cond.selects RX3 yX3_up yX3_up, Cond.code yX3_up cX3_up 3 none, Cond.methodLink RX3 21 yX3_isZero, Cond.instanceMethod yX3_isZero, Cond.selects RX3 yX3_isZero yX3_isZero, Cond.code yX3_isZero cX3_isZero 1 (some .boolean), Cond.methodLink RX4 80 yX4_sizes, Cond.static yX4_sizes, Cond.code yX4_sizes cX4_sizes 3 (some .int), Cond.fieldLink RX4 37 "DecimalRegistersModel$Row" "n" "I", Cond.fieldLink RX4 58 "DecimalRegistersModel$Row" "d" "[I"]
def wsX4_compare : List Cond := .code yX4_compare cX4_compare 3 (some .int) :: ((wsX4_compare_r1 ++ wsX4_compare_r2) ++ wsX40 ++ wsX30)
def wsX4_same : List Cond := .code yX4_same cX4_same 5 (some .boolean) :: ([.fieldLink RX4 9 "DecimalRegistersModel" "registers" "[LDecimalRegistersModel$Row;", .fieldLink RX4 61 "DecimalRegistersModel$Row" "minus" "Z", .fieldLink RX4 41 "DecimalRegistersModel$Row" "scale" "I", .methodLink RX4 52 yX4_is, .static yX4_is, .initialized RX4, .code yX4_is cX4_is 1 (some .boolean), .methodLink RX4 80 yX4_sizes, .static yX4_sizes, .code yX4_sizes cX4_sizes 3 (some .int), .fieldLink RX4 37 "DecimalRegistersModel$Row" "n" "I", .fieldLink RX4 58 "DecimalRegistersModel$Row" "d" "[I"] ++ wsX40 ++ wsX30)
def wsX4_look : List Cond := .code yX4_look cX4_look 4 (some .int) :: ([.fieldLink RX4 9 "DecimalRegistersModel" "registers" "[LDecimalRegistersModel$Row;", .fieldLink RX4 61 "DecimalRegistersModel$Row" "minus" "Z", .fieldLink RX4 37 "DecimalRegistersModel$Row" "n" "I", .fieldLink RX4 41 "DecimalRegistersModel$Row" "scale" "I", .methodLink RX4 52 yX4_is, .static yX4_is, .initialized RX4, .code yX4_is cX4_is 1 (some .boolean), .methodLink RX4 84 yX3_isZero, .instanceMethod yX3_isZero, .selects RX3 yX3_isZero yX3_isZero, .initialized RX3, .code yX3_isZero cX3_isZero 1 (some .boolean), .fieldLink RX3 13 "DecimalRegistersModel$Row" "n" "I", .fieldLink RX3 7 "DecimalRegistersModel$Row" "d" "[I"] ++ wsX40 ++ wsX30)
def wsX4_digit : List Cond := .code yX4_digit cX4_digit 3 (some .int) :: ([.fieldLink RX4 9 "DecimalRegistersModel" "registers" "[LDecimalRegistersModel$Row;", .fieldLink RX4 37 "DecimalRegistersModel$Row" "n" "I", .fieldLink RX4 58 "DecimalRegistersModel$Row" "d" "[I", .methodLink RX4 52 yX4_is, .static yX4_is, .initialized RX4, .code yX4_is cX4_is 1 (some .boolean)] ++ wsX40 ++ wsX30)
def wsX4_whole : List Cond := .code yX4_whole cX4_whole 7 (some .long) :: ([.fieldLink RX4 9 "DecimalRegistersModel" "registers" "[LDecimalRegistersModel$Row;", .fieldLink RX4 41 "DecimalRegistersModel$Row" "scale" "I", .fieldLink RX4 37 "DecimalRegistersModel$Row" "n" "I", .constantLong RX4 56 (10), .fieldLink RX4 58 "DecimalRegistersModel$Row" "d" "[I", .fieldLink RX4 61 "DecimalRegistersModel$Row" "minus" "Z", .methodLink RX4 52 yX4_is, .static yX4_is, .initialized RX4, .code yX4_is cX4_is 1 (some .boolean)] ++ wsX40 ++ wsX30)
def wsX4_sign : List Cond := .code yX4_sign cX4_sign 2 none :: ([.fieldLink RX4 29 "DecimalRegistersModel" "text" "[I", .fieldLink RX4 120 "DecimalRegistersModel" "length" "I"] ++ wsX40)
def wsX4_write : List Cond := .code yX4_write cX4_write 4 (some .int) :: ([.fieldLink RX4 9 "DecimalRegistersModel" "registers" "[LDecimalRegistersModel$Row;", .fieldLink RX4 120 "DecimalRegistersModel" "length" "I", .fieldLink RX4 61 "DecimalRegistersModel$Row" "minus" "Z", .fieldLink RX4 37 "DecimalRegistersModel$Row" "n" "I", .fieldLink RX4 41 "DecimalRegistersModel$Row" "scale" "I", .fieldLink RX4 58 "DecimalRegistersModel$Row" "d" "[I", .methodLink RX4 52 yX4_is, .static yX4_is, .initialized RX4, .code yX4_is cX4_is 1 (some .boolean), .methodLink RX4 123 yX4_sign, .instanceMethod yX4_sign, .selects RX4 yX4_sign yX4_sign, .code yX4_sign cX4_sign 2 none, .fieldLink RX4 29 "DecimalRegistersModel" "text" "[I", .methodLink RX4 84 yX3_isZero, .instanceMethod yX3_isZero, .selects RX3 yX3_isZero yX3_isZero, .initialized RX3, .code yX3_isZero cX3_isZero 1 (some .boolean), .fieldLink RX3 13 "DecimalRegistersModel$Row" "n" "I", .fieldLink RX3 7 "DecimalRegistersModel$Row" "d" "[I"] ++ wsX40 ++ wsX30)
def wsX4_octet : List Cond := .code yX4_octet cX4_octet 2 (some .int) :: ([.fieldLink RX4 120 "DecimalRegistersModel" "length" "I", .fieldLink RX4 29 "DecimalRegistersModel" "text" "[I"] ++ wsX40)
def wsJ9_abs_067f4 : List Cond := .code yJ9_abs_067f4 cJ9_abs_067f4 2 (some .long) :: ([])
def wsJ9_max_7cf53 : List Cond := .code yJ9_max_7cf53 cJ9_max_7cf53 2 (some .int) :: ([])
def wsL_law_r1 : List Cond := [Cond.classLink RL 7 RX2, Cond.instantiable RX2 7, Cond.initialized RX2, Cond.classLink RL 10 RX4, Cond.instantiable RX4 7, Cond.initialized RX4, Cond.constantLong RL 13 (4294967295), Cond.methodLink RL 9 yX2_init, Cond.instanceMethod yX2_init, Cond.code yX2_init cX2_init 2 none, Cond.methodLink RX2 1 objectInit, Cond.instanceMethod objectInit, Cond.code objectInit ⟨#[0xb1]⟩ 1 none, Cond.classLink RX2 9 RX0, Cond.fieldLink RX2 11 "DecimalRegisters" "registers" "[LDecimalRegisters$Decimal;", Cond.instantiable RX0 3, Cond.initialized RX0, Cond.fieldLink RX2 16 "DecimalRegisters" "result" "LDecimalRegisters$Decimal;", Cond.fieldLink RX2 20 "DecimalRegisters" "one" "LDecimalRegisters$Decimal;", Cond.fieldLink RX2 23 "DecimalRegisters$Decimal" "digits" "LDecimalRegisters$Natural;", Cond.classLink RX2 28 RX1, Cond.instantiable RX1 2, Cond.initialized RX1, Cond.fieldLink RX2 34 "DecimalRegisters" "top" "LDecimalRegisters$Natural;"]
def wsL_law_r2 : List Cond := [Cond.fieldLink RX2 37 "DecimalRegisters" "bottom" "LDecimalRegisters$Natural;", Cond.arrayClass .char, Cond.fieldLink RX2 40 "DecimalRegisters" "text" "[C", Cond.fieldLink RX2 44 "DecimalRegisters" "textLength" "I", Cond.instanceMethod yX0_init, Cond.code yX0_init cX0_init 1 none, Cond.methodLink RX0 1 objectInit, Cond.classLink RX0 7 RX1, Cond.fieldLink RX0 10 "DecimalRegisters$Decimal" "digits" "LDecimalRegisters$Natural;", Cond.instanceMethod yX1_init, Cond.code yX1_init cX1_init 1 none, Cond.methodLink RX1 1 objectInit, Cond.arrayClass .long, Cond.fieldLink RX1 9 "DecimalRegisters$Natural" "limbs" "[J", Cond.methodLink RX2 27 yX1_becomeSizeOf, Cond.instanceMethod yX1_becomeSizeOf, Cond.selects RX1 yX1_becomeSizeOf yX1_becomeSizeOf, Cond.code yX1_becomeSizeOf cX1_becomeSizeOf 6 none, Cond.constantLong RX1 26 (1000000), Cond.methodLink RX1 28 Lib.MathLoose.abs_long.x, Cond.static Lib.MathLoose.abs_long.x, Cond.initialized "java/lang/Math", Cond.code Lib.MathLoose.abs_long.x Lib.MathLoose.abs_long.code 2 (some .long), Cond.fieldLink RX1 13 "DecimalRegisters$Natural" "size" "I"]
def wsL_law_r3 : List Cond := [Cond.methodLink RX1 23 yX1_clear, Cond.instanceMethod yX1_clear, Cond.selects RX1 yX1_clear yX1_clear, Cond.code yX1_clear cX1_clear 2 none, Cond.methodLink RL 12 yX4_init, Cond.instanceMethod yX4_init, Cond.code yX4_init cX4_init 2 none, Cond.methodLink RX4 1 objectInit, Cond.classLink RX4 7 RX3, Cond.fieldLink RX4 9 "DecimalRegistersModel" "registers" "[LDecimalRegistersModel$Row;", Cond.instantiable RX3 4, Cond.initialized RX3, Cond.fieldLink RX4 16 "DecimalRegistersModel" "a" "LDecimalRegistersModel$Row;", Cond.fieldLink RX4 20 "DecimalRegistersModel" "b" "LDecimalRegistersModel$Row;", Cond.fieldLink RX4 23 "DecimalRegistersModel" "c" "LDecimalRegistersModel$Row;", Cond.fieldLink RX4 26 "DecimalRegistersModel" "e" "LDecimalRegistersModel$Row;", Cond.arrayClass .int, Cond.fieldLink RX4 29 "DecimalRegistersModel" "text" "[I", Cond.instanceMethod yX3_init, Cond.code yX3_init cX3_init 1 none, Cond.methodLink RX3 1 objectInit, Cond.fieldLink RX3 7 "DecimalRegistersModel$Row" "d" "[I", Cond.fieldLink RX3 13 "DecimalRegistersModel$Row" "n" "I", Cond.methodLink RL 15 yX2_load]
def wsL_law_r4 : List Cond := [Cond.instanceMethod yX2_load, Cond.selects RX2 yX2_load yX2_load, Cond.code yX2_load cX2_load 5 (some .int), Cond.fieldLink RX2 52 "DecimalRegisters$Decimal" "minus" "Z", Cond.fieldLink RX2 56 "DecimalRegisters$Decimal" "scale" "I", Cond.methodLink RX2 48 yX2_isRegister, Cond.static yX2_isRegister, Cond.code yX2_isRegister cX2_isRegister 1 (some .boolean), Cond.methodLink RX2 59 yX2_keep, Cond.instanceMethod yX2_keep, Cond.selects RX2 yX2_keep yX2_keep, Cond.code yX2_keep cX2_keep 3 (some .int), Cond.methodLink RX2 114 yX1_precision, Cond.instanceMethod yX1_precision, Cond.selects RX1 yX1_precision yX1_precision, Cond.code yX1_precision cX1_precision 2 (some .int), Cond.methodLink RX1 38 Lib.Math.max.name, Cond.static Lib.Math.max.name, Cond.code Lib.Math.max.name Lib.Math.max.code 2 (some .int), Cond.methodLink RX1 34 yX1_figure, Cond.instanceMethod yX1_figure, Cond.selects RX1 yX1_figure yX1_figure, Cond.code yX1_figure cX1_figure 3 (some .int), Cond.fieldLink RX1 42 "DecimalRegisters$Natural" "TENS" "[J"]
def wsL_law_r5 : List Cond := [Cond.constantLong RX1 45 (10), Cond.methodLink RX2 150 yX2_isScale, Cond.static yX2_isScale, Cond.code yX2_isScale cX2_isScale 1 (some .boolean), Cond.methodLink RX2 63 yX0_become, Cond.instanceMethod yX0_become, Cond.selects RX0 yX0_become yX0_become, Cond.code yX0_become cX0_become 2 none, Cond.fieldLink RX0 16 "DecimalRegisters$Decimal" "minus" "Z", Cond.fieldLink RX0 20 "DecimalRegisters$Decimal" "scale" "I", Cond.methodLink RX0 24 yX0_take, Cond.instanceMethod yX0_take, Cond.selects RX0 yX0_take yX0_take, Cond.code yX0_take cX0_take 4 none, Cond.methodLink RX0 28 yX1_become, Cond.instanceMethod yX1_become, Cond.selects RX1 yX1_become yX1_become, Cond.code yX1_become cX1_become 2 none, Cond.methodLink RX1 17 arraycopyName, Cond.native arraycopyName, Cond.static arraycopyName, Cond.initialized "java/lang/System", Cond.methodLink RX0 32 yX1_isZero, Cond.instanceMethod yX1_isZero]
def wsL_law_r6 : List Cond := [Cond.selects RX1 yX1_isZero yX1_isZero, Cond.code yX1_isZero cX1_isZero 1 (some .boolean), Cond.methodLink RL 19 yX4_load, Cond.instanceMethod yX4_load, Cond.selects RX4 yX4_load yX4_load, Cond.code yX4_load cX4_load 10 (some .int), Cond.fieldLink RX4 37 "DecimalRegistersModel$Row" "n" "I", Cond.constantLong RX4 56 (10), Cond.fieldLink RX4 58 "DecimalRegistersModel$Row" "d" "[I", Cond.fieldLink RX4 61 "DecimalRegistersModel$Row" "minus" "Z", Cond.fieldLink RX4 41 "DecimalRegistersModel$Row" "scale" "I", Cond.methodLink RX4 52 yX4_is, Cond.static yX4_is, Cond.code yX4_is cX4_is 1 (some .boolean), Cond.methodLink RX4 44 yX4_isScale, Cond.static yX4_isScale, Cond.code yX4_isScale cX4_isScale 2 (some .boolean), Cond.constantLong RX4 33 (-6), Cond.constantLong RX4 35 (6), Cond.methodLink RL 20 yX2_push, Cond.instanceMethod yX2_push, Cond.selects RX2 yX2_push yX2_push, Cond.code yX2_push cX2_push 4 (some .int), Cond.constantLong RX2 71 (1000000000000000000)]
def wsL_law_r7 : List Cond := [Cond.methodLink RX2 67 yX1_raise, Cond.instanceMethod yX1_raise, Cond.selects RX1 yX1_raise yX1_raise, Cond.code yX1_raise cX1_raise 10 none, Cond.methodLink RX1 47 yX1_close, Cond.instanceMethod yX1_close, Cond.selects RX1 yX1_close yX1_close, Cond.code yX1_close cX1_close 4 none, Cond.methodLink RX1 54 yX1_shift, Cond.instanceMethod yX1_shift, Cond.selects RX1 yX1_shift yX1_shift, Cond.code yX1_shift cX1_shift 3 none, Cond.methodLink RX2 73 yX1_add, Cond.instanceMethod yX1_add, Cond.selects RX1 yX1_add yX1_add, Cond.code yX1_add cX1_add 8 none, Cond.methodLink RL 24 yX4_push, Cond.instanceMethod yX4_push, Cond.selects RX4 yX4_push yX4_push, Cond.code yX4_push cX4_push 9 (some .int), Cond.methodLink RX4 48 yX3_take, Cond.instanceMethod yX3_take, Cond.selects RX3 yX3_take yX3_take, Cond.code yX3_take cX3_take 3 none]
def wsL_law_r8 : List Cond := [Cond.fieldLink RX3 17 "DecimalRegistersModel$Row" "minus" "Z", Cond.fieldLink RX3 25 "DecimalRegistersModel$Row" "scale" "I", Cond.methodLink RX4 65 yX3_trim, Cond.instanceMethod yX3_trim, Cond.selects RX3 yX3_trim yX3_trim, Cond.code yX3_trim cX3_trim 1 none, Cond.methodLink RX3 21 yX3_isZero, Cond.instanceMethod yX3_isZero, Cond.selects RX3 yX3_isZero yX3_isZero, Cond.code yX3_isZero cX3_isZero 1 (some .boolean), Cond.methodLink RX4 68 yX4_keep, Cond.instanceMethod yX4_keep, Cond.selects RX4 yX4_keep yX4_keep, Cond.code yX4_keep cX4_keep 3 (some .int), Cond.methodLink RL 25 yX2_reckon, Cond.instanceMethod yX2_reckon, Cond.selects RX2 yX2_reckon yX2_reckon, Cond.code yX2_reckon cX2_reckon 7 (some .int), Cond.methodLink RX2 77 yX2_addUp, Cond.instanceMethod yX2_addUp, Cond.selects RX2 yX2_addUp yX2_addUp, Cond.code yX2_addUp cX2_addUp 5 none, Cond.methodLink RX2 100 Lib.Math.max.name, Cond.methodLink RX2 155 yX2_align]
def wsL_law_r9 : List Cond := [Cond.instanceMethod yX2_align, Cond.selects RX2 yX2_align yX2_align, Cond.code yX2_align cX2_align 5 none, Cond.methodLink RX2 153 yX1_become, Cond.methodLink RX2 110 yX0_take, Cond.methodLink RX2 127 yX1_order, Cond.instanceMethod yX1_order, Cond.selects RX1 yX1_order yX1_order, Cond.code yX1_order cX1_order 3 (some .int), Cond.methodLink RX2 169 yX1_subtract, Cond.instanceMethod yX1_subtract, Cond.selects RX1 yX1_subtract yX1_subtract, Cond.code yX1_subtract cX1_subtract 7 none, Cond.methodLink RX1 51 yX1_shrink, Cond.instanceMethod yX1_shrink, Cond.selects RX1 yX1_shrink yX1_shrink, Cond.code yX1_shrink cX1_shrink 1 none, Cond.methodLink RX2 81 yX2_multiply, Cond.instanceMethod yX2_multiply, Cond.selects RX2 yX2_multiply yX2_multiply, Cond.code yX2_multiply cX2_multiply 3 none, Cond.methodLink RX2 172 yX1_becomeProduct, Cond.instanceMethod yX1_becomeProduct, Cond.selects RX1 yX1_becomeProduct yX1_becomeProduct]
def wsL_law_r10 : List Cond := [Cond.code yX1_becomeProduct cX1_becomeProduct 9 none, Cond.methodLink RX2 85 yX2_order, Cond.instanceMethod yX2_order, Cond.selects RX2 yX2_order yX2_order, Cond.code yX2_order cX2_order 3 (some .int), Cond.methodLink RX2 130 yX0_sign, Cond.instanceMethod yX0_sign, Cond.selects RX0 yX0_sign yX0_sign, Cond.code yX0_sign cX0_sign 1 (some .int), Cond.methodLink RL 29 yX4_reckon, Cond.instanceMethod yX4_reckon, Cond.selects RX4 yX4_reckon yX4_reckon, Cond.code yX4_reckon cX4_reckon 7 (some .int), Cond.methodLink RX4 88 yX4_order, Cond.instanceMethod yX4_order, Cond.selects RX4 yX4_order yX4_order, Cond.code yX4_order cX4_order 4 (some .int), Cond.methodLink RX4 76 yX4_align, Cond.instanceMethod yX4_align, Cond.selects RX4 yX4_align yX4_align, Cond.code yX4_align cX4_align 4 none, Cond.methodLink RX4 72 yX3_up, Cond.instanceMethod yX3_up, Cond.selects RX3 yX3_up yX3_up]
def wsL_law_r11 : List Cond := [Cond.code yX3_up cX3_up 3 none, Cond.methodLink RX4 80 yX4_sizes, Cond.static yX4_sizes, Cond.code yX4_sizes cX4_sizes 3 (some .int), Cond.methodLink RX4 92 yX4_product, Cond.static yX4_product, Cond.code yX4_product cX4_product 7 none, Cond.methodLink RX4 96 yX4_sum, Cond.instanceMethod yX4_sum, Cond.selects RX4 yX4_sum yX4_sum, Cond.code yX4_sum cX4_sum 8 none, Cond.methodLink RX4 84 yX3_isZero, Cond.methodLink RL 30 yX2_divide, Cond.instanceMethod yX2_divide, Cond.selects RX2 yX2_divide yX2_divide, Cond.code yX2_divide cX2_divide 6 (some .int), Cond.methodLink RX2 89 yX2_isWay, Cond.static yX2_isWay, Cond.code yX2_isWay cX2_isWay 1 (some .boolean), Cond.methodLink RX2 92 yX1_isZero, Cond.methodLink RX2 96 yX2_keepQuotient, Cond.instanceMethod yX2_keepQuotient, Cond.selects RX2 yX2_keepQuotient yX2_keepQuotient, Cond.code yX2_keepQuotient cX2_keepQuotient 6 (some .int)]
def wsL_law_r12 : List Cond := [Cond.methodLink RX2 106 yX2_split, Cond.instanceMethod yX2_split, Cond.selects RX2 yX2_split yX2_split, Cond.code yX2_split cX2_split 4 none, Cond.methodLink RX2 158 yX1_takeOut, Cond.instanceMethod yX1_takeOut, Cond.selects RX1 yX1_takeOut yX1_takeOut, Cond.code yX1_takeOut cX1_takeOut 7 none, Cond.constantLong RX1 66 (-1), Cond.methodLink RX1 58 yX1_guess, Cond.instanceMethod yX1_guess, Cond.selects RX1 yX1_guess yX1_guess, Cond.code yX1_guess cX1_guess 8 (some .long), Cond.methodLink RX1 62 yX1_takeAway, Cond.instanceMethod yX1_takeAway, Cond.selects RX1 yX1_takeAway yX1_takeAway, Cond.code yX1_takeAway cX1_takeAway 10 none, Cond.methodLink RX1 68 yJ9_floorDiv_f86c9, Cond.static yJ9_floorDiv_f86c9, Cond.initialized RJ9, Cond.code yJ9_floorDiv_f86c9 cJ9_floorDiv_f86c9 6 (some .long), Cond.methodLink RX2 121 yX2_settle, Cond.instanceMethod yX2_settle, Cond.selects RX2 yX2_settle yX2_settle]
def wsL_law_r13 : List Cond := [Cond.code yX2_settle cX2_settle 2 (some .boolean), Cond.methodLink RX2 162 yX2_isAwayFromZero, Cond.instanceMethod yX2_isAwayFromZero, Cond.selects RX2 yX2_isAwayFromZero yX2_isAwayFromZero, Cond.code yX2_isAwayFromZero cX2_isAwayFromZero 3 (some .boolean), Cond.methodLink RX2 133 yX1_figure, Cond.methodLink RL 34 yX4_divide, Cond.instanceMethod yX4_divide, Cond.selects RX4 yX4_divide yX4_divide, Cond.code yX4_divide cX4_divide 11 (some .int), Cond.methodLink RX4 100 yX4_over, Cond.instanceMethod yX4_over, Cond.selects RX4 yX4_over yX4_over, Cond.code yX4_over cX4_over 6 none, Cond.methodLink RX4 103 yX4_turns, Cond.static yX4_turns, Cond.code yX4_turns cX4_turns 4 (some .boolean), Cond.methodLink RX4 107 yX3_more, Cond.instanceMethod yX3_more, Cond.selects RX3 yX3_more yX3_more, Cond.code yX3_more cX3_more 2 none, Cond.methodLink RL 35 yX2_part, Cond.instanceMethod yX2_part, Cond.selects RX2 yX2_part yX2_part]
def wsL_law_r14 : List Cond := [Cond.code yX2_part cX2_part 10 (some .int), Cond.methodLink RL 38 yX4_part, Cond.instanceMethod yX4_part, Cond.selects RX4 yX4_part yX4_part, Cond.code yX4_part cX4_part 7 (some .int), Cond.methodLink RL 39 yX2_scale, Cond.instanceMethod yX2_scale, Cond.selects RX2 yX2_scale yX2_scale, Cond.code yX2_scale cX2_scale 5 (some .int), Cond.methodLink RL 42 yX4_scale, Cond.instanceMethod yX4_scale, Cond.selects RX4 yX4_scale yX4_scale, Cond.code yX4_scale cX4_scale 5 (some .int), Cond.methodLink RX4 113 yX4_cut, Cond.instanceMethod yX4_cut, Cond.selects RX4 yX4_cut yX4_cut, Cond.code yX4_cut cX4_cut 8 (some .boolean), Cond.methodLink RX4 110 yX3_ends, Cond.instanceMethod yX3_ends, Cond.selects RX3 yX3_ends yX3_ends, Cond.code yX3_ends cX3_ends 3 (some .boolean), Cond.methodLink RL 43 yX2_round, Cond.instanceMethod yX2_round, Cond.selects RX2 yX2_round yX2_round]
def wsL_law_r15 : List Cond := [Cond.code yX2_round cX2_round 7 (some .int), Cond.methodLink RX2 118 yX2_cutOff, Cond.instanceMethod yX2_cutOff, Cond.selects RX2 yX2_cutOff yX2_cutOff, Cond.code yX2_cutOff cX2_cutOff 2 none, Cond.methodLink RL 46 yX4_round, Cond.instanceMethod yX4_round, Cond.selects RX4 yX4_round yX4_round, Cond.code yX4_round cX4_round 6 (some .int), Cond.methodLink RL 47 yX2_turn, Cond.instanceMethod yX2_turn, Cond.selects RX2 yX2_turn yX2_turn, Cond.code yX2_turn cX2_turn 4 (some .int), Cond.methodLink RX2 124 yX2_cutOffZeros, Cond.instanceMethod yX2_cutOffZeros, Cond.selects RX2 yX2_cutOffZeros yX2_cutOffZeros, Cond.code yX2_cutOffZeros cX2_cutOffZeros 1 none, Cond.methodLink RX2 166 yX1_zerosAtEnd, Cond.instanceMethod yX1_zerosAtEnd, Cond.selects RX1 yX1_zerosAtEnd yX1_zerosAtEnd, Cond.code yX1_zerosAtEnd cX1_zerosAtEnd 3 (some .int), Cond.methodLink RL 51 yX4_turn, Cond.instanceMethod yX4_turn, Cond.selects RX4 yX4_turn yX4_turn]
def wsL_law_r16 : List Cond := [Cond.code yX4_turn cX4_turn 5 (some .int), Cond.methodLink RL 52 yX2_move, Cond.instanceMethod yX2_move, Cond.selects RX2 yX2_move yX2_move, Cond.code yX2_move cX2_move 5 (some .int), Cond.methodLink RL 55 yX4_move, Cond.instanceMethod yX4_move, Cond.selects RX4 yX4_move yX4_move, Cond.code yX4_move cX4_move 5 (some .int), Cond.methodLink RL 56 yX2_power, Cond.instanceMethod yX2_power, Cond.selects RX2 yX2_power yX2_power, Cond.code yX2_power cX2_power 6 (some .int), Cond.methodLink RL 59 yX4_power, Cond.instanceMethod yX4_power, Cond.selects RX4 yX4_power yX4_power, Cond.code yX4_power cX4_power 5 (some .int), Cond.methodLink RX4 117 yX3_zero, Cond.instanceMethod yX3_zero, Cond.selects RX3 yX3_zero yX3_zero, Cond.code yX3_zero cX3_zero 1 none, Cond.methodLink RL 60 yX2_compare, Cond.instanceMethod yX2_compare, Cond.selects RX2 yX2_compare yX2_compare]
def wsL_law_r17 : List Cond := [Cond.code yX2_compare cX2_compare 3 (some .int), Cond.methodLink RL 64 yX4_compare, Cond.instanceMethod yX4_compare, Cond.selects RX4 yX4_compare yX4_compare, Cond.code yX4_compare cX4_compare 3 (some .int), Cond.methodLink RL 65 yX2_same, Cond.instanceMethod yX2_same, Cond.selects RX2 yX2_same yX2_same, Cond.code yX2_same cX2_same 5 (some .boolean), Cond.methodLink RL 69 yX4_same, Cond.instanceMethod yX4_same, Cond.selects RX4 yX4_same yX4_same, Cond.code yX4_same cX4_same 5 (some .boolean), Cond.methodLink RL 70 yX2_look, Cond.instanceMethod yX2_look, Cond.selects RX2 yX2_look yX2_look, Cond.code yX2_look cX2_look 3 (some .int), Cond.methodLink RL 73 yX4_look, Cond.instanceMethod yX4_look, Cond.selects RX4 yX4_look yX4_look, Cond.code yX4_look cX4_look 4 (some .int), Cond.methodLink RL 74 yX2_digit, Cond.instanceMethod yX2_digit, Cond.selects RX2 yX2_digit yX2_digit]
def wsL_law_r18 : List Cond := [Cond.code yX2_digit cX2_digit 3 (some .int), Cond.methodLink RL 77 yX4_digit, Cond.instanceMethod yX4_digit, Cond.selects RX4 yX4_digit yX4_digit, Cond.code yX4_digit cX4_digit 3 (some .int), Cond.methodLink RL 78 yX2_whole, Cond.instanceMethod yX2_whole, Cond.selects RX2 yX2_whole yX2_whole, Cond.code yX2_whole cX2_whole 4 (some .long), Cond.methodLink RX2 136 yX1_lowestBits, Cond.instanceMethod yX1_lowestBits, Cond.selects RX1 yX1_lowestBits yX1_lowestBits, Cond.code yX1_lowestBits cX1_lowestBits 4 (some .long), Cond.methodLink RL 82 yX4_whole, Cond.instanceMethod yX4_whole, Cond.selects RX4 yX4_whole yX4_whole, Cond.code yX4_whole cX4_whole 7 (some .long), Cond.methodLink RL 83 yX2_write, Cond.instanceMethod yX2_write, Cond.selects RX2 yX2_write yX2_write, Cond.code yX2_write cX2_write 3 (some .int), Cond.methodLink RX2 140 yX2_append, Cond.instanceMethod yX2_append, Cond.selects RX2 yX2_append yX2_append]
def wsL_law_r19 : List Cond := [Cond.code yX2_append cX2_append 2 none, Cond.methodLink RX2 144 yX2_appendFigures, Cond.instanceMethod yX2_appendFigures, Cond.selects RX2 yX2_appendFigures yX2_appendFigures, Cond.code yX2_appendFigures cX2_appendFigures 3 none, Cond.methodLink RX2 147 yX2_appendZeros, Cond.instanceMethod yX2_appendZeros, Cond.selects RX2 yX2_appendZeros yX2_appendZeros, Cond.code yX2_appendZeros cX2_appendZeros 3 none, Cond.methodLink RL 87 yX4_write, Cond.instanceMethod yX4_write, Cond.selects RX4 yX4_write yX4_write, Cond.code yX4_write cX4_write 4 (some .int), Cond.fieldLink RX4 120 "DecimalRegistersModel" "length" "I", Cond.methodLink RX4 123 yX4_sign, Cond.instanceMethod yX4_sign, Cond.selects RX4 yX4_sign yX4_sign, Cond.code yX4_sign cX4_sign 2 none, Cond.methodLink RL 88 yX2_octet, Cond.instanceMethod yX2_octet, Cond.selects RX2 yX2_octet yX2_octet, Cond.code yX2_octet cX2_octet 2 (some .int), Cond.methodLink RL 91 yX4_octet, Cond.instanceMethod yX4_octet]
def wsL_law_r20 : List Cond := [Cond.selects RX4 yX4_octet yX4_octet, Cond.code yX4_octet cX4_octet 2 (some .int)]
def wsL_law : List Cond := (wsL_law_r1 ++ (wsL_law_r2 ++ (wsL_law_r3 ++ (wsL_law_r4 ++ (wsL_law_r5 ++ (wsL_law_r6 ++ (wsL_law_r7 ++ (wsL_law_r8 ++ (wsL_law_r9 ++ (wsL_law_r10 ++ (wsL_law_r11 ++ (wsL_law_r12 ++ (wsL_law_r13 ++ (wsL_law_r14 ++ (wsL_law_r15 ++ (wsL_law_r16 ++ (wsL_law_r17 ++ (wsL_law_r18 ++ (wsL_law_r19 ++ wsL_law_r20))))))))))))))))))) ++ wsX20 ++ wsX40 ++ wsX00 ++ wsX10 ++ wsX30 ++ ([] : List Cond)
abbrev vwCl : List vw_C := [(RX0, TX0, 3), (RX1, TX1, 2), (RX2, TX2, 7), (RX3, TX3, 4), (RX4, TX4, 7)]
set_option maxRecDepth 20000 in
theorem ggX0_init_X1_init : GoodIn wsX0_init wsX1_init := goodIn_r _ [9, 10, 2, 3, 11, 12, 13, 14] (by decide +kernel) (by decide +kernel)
set_option maxRecDepth 20000 in
theorem gX0_init_X1_init_n9 : GoodIn wsX0_init (wsX1_init) := ggX0_init_X1_init
theorem dX0_init_0 : decode cX0_init 0 = .ok (.aload_n 0, 1) := by decide +kernel
theorem dX0_init_1 : decode cX0_init 1 = .ok (.invokespecial 1, 3) := by decide +kernel
theorem dX0_init_4 : decode cX0_init 4 = .ok (.aload_n 0, 1) := by decide +kernel
theorem dX0_init_5 : decode cX0_init 5 = .ok (.new 7, 3) := by decide +kernel
theorem dX0_init_8 : decode cX0_init 8 = .ok (.dup, 1) := by decide +kernel
theorem dX0_init_9 : decode cX0_init 9 = .ok (.invokespecial 9, 3) := by decide +kernel
theorem dX0_init_12 : decode cX0_init 12 = .ok (.putfield 10, 3) := by decide +kernel
theorem dX0_init_15 : decode cX0_init 15 = .ok (.return_, 1) := by decide +kernel
set_option maxRecDepth 20000 in
theorem ggX0_become_X0_take : GoodIn wsX0_become wsX0_take := goodIn_r _ [8, 1, 2, 3, 9, 10, 11, 12, 13, 14, 15, 16, 17, 18, 19, 20, 21, 22, 23, 24, 25, 26, 27, 28] (by decide +kernel) (by decide +kernel)
set_option maxRecDepth 20000 in
theorem gX0_become_X0_take : GoodIn wsX0_become (wsV RX0 24 RX0 yX0_take wsX0_take) := goodIn_app (goodIn_of _ (by decide +kernel)) ggX0_become_X0_take
theorem dX0_become_0 : decode cX0_become 0 = .ok (.aload_n 0, 1) := by decide +kernel
theorem dX0_become_1 : decode cX0_become 1 = .ok (.aload_n 1, 1) := by decide +kernel
theorem dX0_become_2 : decode cX0_become 2 = .ok (.getfield 10, 3) := by decide +kernel
theorem dX0_become_5 : decode cX0_become 5 = .ok (.aload_n 1, 1) := by decide +kernel
theorem dX0_become_6 : decode cX0_become 6 = .ok (.getfield 16, 3) := by decide +kernel
theorem dX0_become_9 : decode cX0_become 9 = .ok (.aload_n 1, 1) := by decide +kernel
theorem dX0_become_10 : decode cX0_become 10 = .ok (.getfield 20, 3) := by decide +kernel
theorem dX0_become_13 : decode cX0_become 13 = .ok (.invokevirtual 24, 3) := by decide +kernel
theorem dX0_become_16 : decode cX0_become 16 = .ok (.return_, 1) := by decide +kernel
set_option maxRecDepth 20000 in
theorem ggX0_take_X1_become : GoodIn wsX0_take wsX1_become := goodIn_r _ [8, 9, 10, 11, 12, 13, 14, 22, 23] (by decide +kernel) (by decide +kernel)
set_option maxRecDepth 20000 in
theorem gX0_take_X1_become : GoodIn wsX0_take (wsV RX0 28 RX1 yX1_become wsX1_become) := goodIn_app (goodIn_of _ (by decide +kernel)) ggX0_take_X1_become
set_option maxRecDepth 20000 in
theorem ggX0_take_X1_isZero : GoodIn wsX0_take wsX1_isZero := goodIn_r _ [18, 14, 22, 23] (by decide +kernel) (by decide +kernel)
set_option maxRecDepth 20000 in
theorem gX0_take_X1_isZero : GoodIn wsX0_take (wsV RX0 32 RX1 yX1_isZero wsX1_isZero) := goodIn_app (goodIn_of _ (by decide +kernel)) ggX0_take_X1_isZero
theorem dX0_take_0 : decode cX0_take 0 = .ok (.aload_n 0, 1) := by decide +kernel
theorem dX0_take_1 : decode cX0_take 1 = .ok (.getfield 10, 3) := by decide +kernel
theorem dX0_take_4 : decode cX0_take 4 = .ok (.aload_n 1, 1) := by decide +kernel
theorem dX0_take_5 : decode cX0_take 5 = .ok (.invokevirtual 28, 3) := by decide +kernel
theorem dX0_take_8 : decode cX0_take 8 = .ok (.aload_n 0, 1) := by decide +kernel
theorem dX0_take_9 : decode cX0_take 9 = .ok (.iload_n 2, 1) := by decide +kernel
theorem dX0_take_10 : decode cX0_take 10 = .ok (.ifCond .eq 14, 3) := by decide +kernel
theorem dX0_take_13 : decode cX0_take 13 = .ok (.aload_n 1, 1) := by decide +kernel
theorem dX0_take_14 : decode cX0_take 14 = .ok (.invokevirtual 32, 3) := by decide +kernel
theorem dX0_take_17 : decode cX0_take 17 = .ok (.ifCond .ne 7, 3) := by decide +kernel
theorem dX0_take_20 : decode cX0_take 20 = .ok (.iconst 1, 1) := by decide +kernel
theorem dX0_take_21 : decode cX0_take 21 = .ok (.goto 4, 3) := by decide +kernel
theorem dX0_take_24 : decode cX0_take 24 = .ok (.iconst 0, 1) := by decide +kernel
theorem dX0_take_25 : decode cX0_take 25 = .ok (.putfield 16, 3) := by decide +kernel
theorem dX0_take_28 : decode cX0_take 28 = .ok (.aload_n 0, 1) := by decide +kernel
theorem dX0_take_29 : decode cX0_take 29 = .ok (.iload_n 3, 1) := by decide +kernel
theorem dX0_take_30 : decode cX0_take 30 = .ok (.putfield 20, 3) := by decide +kernel
theorem dX0_take_33 : decode cX0_take 33 = .ok (.return_, 1) := by decide +kernel
set_option maxRecDepth 20000 in
theorem ggX0_sign_X1_isZero : GoodIn wsX0_sign wsX1_isZero := goodIn_r _ [7, 8, 12, 13] (by decide +kernel) (by decide +kernel)
set_option maxRecDepth 20000 in
theorem gX0_sign_X1_isZero : GoodIn wsX0_sign (wsV RX0 32 RX1 yX1_isZero wsX1_isZero) := goodIn_app (goodIn_of _ (by decide +kernel)) ggX0_sign_X1_isZero
theorem dX0_sign_0 : decode cX0_sign 0 = .ok (.aload_n 0, 1) := by decide +kernel
theorem dX0_sign_1 : decode cX0_sign 1 = .ok (.getfield 10, 3) := by decide +kernel
theorem dX0_sign_4 : decode cX0_sign 4 = .ok (.invokevirtual 32, 3) := by decide +kernel
theorem dX0_sign_7 : decode cX0_sign 7 = .ok (.ifCond .eq 5, 3) := by decide +kernel
theorem dX0_sign_10 : decode cX0_sign 10 = .ok (.iconst 0, 1) := by decide +kernel
theorem dX0_sign_11 : decode cX0_sign 11 = .ok (.ireturn, 1) := by decide +kernel
theorem dX0_sign_12 : decode cX0_sign 12 = .ok (.aload_n 0, 1) := by decide +kernel
theorem dX0_sign_13 : decode cX0_sign 13 = .ok (.getfield 16, 3) := by decide +kernel
theorem dX0_sign_16 : decode cX0_sign 16 = .ok (.ifCond .eq 7, 3) := by decide +kernel
theorem dX0_sign_19 : decode cX0_sign 19 = .ok (.iconst (-1), 1) := by decide +kernel
theorem dX0_sign_20 : decode cX0_sign 20 = .ok (.goto 4, 3) := by decide +kernel
theorem dX0_sign_23 : decode cX0_sign 23 = .ok (.iconst 1, 1) := by decide +kernel
theorem dX0_sign_24 : decode cX0_sign 24 = .ok (.ireturn, 1) := by decide +kernel
theorem dX1_init_0 : decode cX1_init 0 = .ok (.aload_n 0, 1) := by decide +kernel
theorem dX1_init_1 : decode cX1_init 1 = .ok (.invokespecial 1, 3) := by decide +kernel
theorem dX1_init_4 : decode cX1_init 4 = .ok (.aload_n 0, 1) := by decide +kernel
theorem dX1_init_5 : decode cX1_init 5 = .ok (.bipush 64, 2) := by decide +kernel
theorem dX1_init_7 : decode cX1_init 7 = .ok (.newarray .long, 2) := by decide +kernel
theorem dX1_init_9 : decode cX1_init 9 = .ok (.putfield 9, 3) := by decide +kernel
theorem dX1_init_12 : decode cX1_init 12 = .ok (.return_, 1) := by decide +kernel
theorem dX1_isZero_0 : decode cX1_isZero 0 = .ok (.aload_n 0, 1) := by decide +kernel
theorem dX1_isZero_1 : decode cX1_isZero 1 = .ok (.getfield 13, 3) := by decide +kernel
theorem dX1_isZero_4 : decode cX1_isZero 4 = .ok (.ifCond .ne 7, 3) := by decide +kernel
theorem dX1_isZero_7 : decode cX1_isZero 7 = .ok (.iconst 1, 1) := by decide +kernel
theorem dX1_isZero_8 : decode cX1_isZero 8 = .ok (.goto 4, 3) := by decide +kernel
theorem dX1_isZero_11 : decode cX1_isZero 11 = .ok (.iconst 0, 1) := by decide +kernel
theorem dX1_isZero_12 : decode cX1_isZero 12 = .ok (.ireturn, 1) := by decide +kernel
theorem dX1_become_0 : decode cX1_become 0 = .ok (.aload_n 1, 1) := by decide +kernel
theorem dX1_become_1 : decode cX1_become 1 = .ok (.getfield 9, 3) := by decide +kernel
theorem dX1_become_4 : decode cX1_become 4 = .ok (.iconst 0, 1) := by decide +kernel
theorem dX1_become_5 : decode cX1_become 5 = .ok (.aload_n 0, 1) := by decide +kernel
theorem dX1_become_6 : decode cX1_become 6 = .ok (.getfield 9, 3) := by decide +kernel
theorem dX1_become_9 : decode cX1_become 9 = .ok (.iconst 0, 1) := by decide +kernel
theorem dX1_become_10 : decode cX1_become 10 = .ok (.bipush 64, 2) := by decide +kernel
theorem dX1_become_12 : decode cX1_become 12 = .ok (.invokestatic 17, 3) := by decide +kernel
theorem dX1_become_15 : decode cX1_become 15 = .ok (.aload_n 0, 1) := by decide +kernel
theorem dX1_become_16 : decode cX1_become 16 = .ok (.aload_n 1, 1) := by decide +kernel
theorem dX1_become_17 : decode cX1_become 17 = .ok (.getfield 13, 3) := by decide +kernel
theorem dX1_become_20 : decode cX1_become 20 = .ok (.putfield 13, 3) := by decide +kernel
theorem dX1_become_23 : decode cX1_become 23 = .ok (.return_, 1) := by decide +kernel
set_option maxRecDepth 20000 in
theorem ggX1_becomeSizeOf_X1_clear : GoodIn wsX1_becomeSizeOf wsX1_clear := goodIn_r _ [12, 7, 1, 13, 14] (by decide +kernel) (by decide +kernel)
set_option maxRecDepth 20000 in
theorem gX1_becomeSizeOf_X1_clear : GoodIn wsX1_becomeSizeOf (wsV RX1 23 RX1 yX1_clear wsX1_clear) := goodIn_app (goodIn_of _ (by decide +kernel)) ggX1_becomeSizeOf_X1_clear
theorem dX1_becomeSizeOf_0 : decode cX1_becomeSizeOf 0 = .ok (.aload_n 0, 1) := by decide +kernel
theorem dX1_becomeSizeOf_1 : decode cX1_becomeSizeOf 1 = .ok (.invokevirtual 23, 3) := by decide +kernel
theorem dX1_becomeSizeOf_4 : decode cX1_becomeSizeOf 4 = .ok (.lload_n 1, 1) := by decide +kernel
theorem dX1_becomeSizeOf_5 : decode cX1_becomeSizeOf 5 = .ok (.lstore_n 3, 1) := by decide +kernel
theorem dX1_becomeSizeOf_6 : decode cX1_becomeSizeOf 6 = .ok (.iconst 0, 1) := by decide +kernel
theorem dX1_becomeSizeOf_7 : decode cX1_becomeSizeOf 7 = .ok (.istore 5, 2) := by decide +kernel
theorem dX1_becomeSizeOf_9 : decode cX1_becomeSizeOf 9 = .ok (.iload 5, 2) := by decide +kernel
theorem dX1_becomeSizeOf_11 : decode cX1_becomeSizeOf 11 = .ok (.bipush 64, 2) := by decide +kernel
theorem dX1_becomeSizeOf_13 : decode cX1_becomeSizeOf 13 = .ok (.if_icmp .ge 44, 3) := by decide +kernel
theorem dX1_becomeSizeOf_16 : decode cX1_becomeSizeOf 16 = .ok (.lload_n 3, 1) := by decide +kernel
theorem dX1_becomeSizeOf_17 : decode cX1_becomeSizeOf 17 = .ok (.lconst 0, 1) := by decide +kernel
theorem dX1_becomeSizeOf_18 : decode cX1_becomeSizeOf 18 = .ok (.lcmp, 1) := by decide +kernel
theorem dX1_becomeSizeOf_19 : decode cX1_becomeSizeOf 19 = .ok (.ifCond .eq 38, 3) := by decide +kernel
theorem dX1_becomeSizeOf_22 : decode cX1_becomeSizeOf 22 = .ok (.aload_n 0, 1) := by decide +kernel
theorem dX1_becomeSizeOf_23 : decode cX1_becomeSizeOf 23 = .ok (.getfield 9, 3) := by decide +kernel
theorem dX1_becomeSizeOf_26 : decode cX1_becomeSizeOf 26 = .ok (.iload 5, 2) := by decide +kernel
theorem dX1_becomeSizeOf_28 : decode cX1_becomeSizeOf 28 = .ok (.lload_n 3, 1) := by decide +kernel
theorem dX1_becomeSizeOf_29 : decode cX1_becomeSizeOf 29 = .ok (.ldc2_w 26, 3) := by decide +kernel
theorem dX1_becomeSizeOf_32 : decode cX1_becomeSizeOf 32 = .ok (.lrem, 1) := by decide +kernel
theorem dX1_becomeSizeOf_33 : decode cX1_becomeSizeOf 33 = .ok (.invokestatic 28, 3) := by decide +kernel
theorem dX1_becomeSizeOf_36 : decode cX1_becomeSizeOf 36 = .ok (.lastore, 1) := by decide +kernel
theorem dX1_becomeSizeOf_37 : decode cX1_becomeSizeOf 37 = .ok (.lload_n 3, 1) := by decide +kernel
theorem dX1_becomeSizeOf_38 : decode cX1_becomeSizeOf 38 = .ok (.ldc2_w 26, 3) := by decide +kernel
theorem dX1_becomeSizeOf_41 : decode cX1_becomeSizeOf 41 = .ok (.ldiv, 1) := by decide +kernel
theorem dX1_becomeSizeOf_42 : decode cX1_becomeSizeOf 42 = .ok (.lstore_n 3, 1) := by decide +kernel
theorem dX1_becomeSizeOf_43 : decode cX1_becomeSizeOf 43 = .ok (.aload_n 0, 1) := by decide +kernel
theorem dX1_becomeSizeOf_44 : decode cX1_becomeSizeOf 44 = .ok (.iload 5, 2) := by decide +kernel
theorem dX1_becomeSizeOf_46 : decode cX1_becomeSizeOf 46 = .ok (.iconst 1, 1) := by decide +kernel
theorem dX1_becomeSizeOf_47 : decode cX1_becomeSizeOf 47 = .ok (.iadd, 1) := by decide +kernel
theorem dX1_becomeSizeOf_48 : decode cX1_becomeSizeOf 48 = .ok (.putfield 13, 3) := by decide +kernel
theorem dX1_becomeSizeOf_51 : decode cX1_becomeSizeOf 51 = .ok (.iinc 5 1, 3) := by decide +kernel
theorem dX1_becomeSizeOf_54 : decode cX1_becomeSizeOf 54 = .ok (.goto (-45), 3) := by decide +kernel
theorem dX1_becomeSizeOf_57 : decode cX1_becomeSizeOf 57 = .ok (.return_, 1) := by decide +kernel
theorem dX1_clear_0 : decode cX1_clear 0 = .ok (.iconst 0, 1) := by decide +kernel
theorem dX1_clear_1 : decode cX1_clear 1 = .ok (.istore_n 1, 1) := by decide +kernel
theorem dX1_clear_2 : decode cX1_clear 2 = .ok (.iload_n 1, 1) := by decide +kernel
theorem dX1_clear_3 : decode cX1_clear 3 = .ok (.aload_n 0, 1) := by decide +kernel
theorem dX1_clear_4 : decode cX1_clear 4 = .ok (.getfield 13, 3) := by decide +kernel
theorem dX1_clear_7 : decode cX1_clear 7 = .ok (.if_icmp .ge 16, 3) := by decide +kernel
theorem dX1_clear_10 : decode cX1_clear 10 = .ok (.aload_n 0, 1) := by decide +kernel
theorem dX1_clear_11 : decode cX1_clear 11 = .ok (.getfield 9, 3) := by decide +kernel
theorem dX1_clear_14 : decode cX1_clear 14 = .ok (.iload_n 1, 1) := by decide +kernel
theorem dX1_clear_15 : decode cX1_clear 15 = .ok (.lconst 0, 1) := by decide +kernel
theorem dX1_clear_16 : decode cX1_clear 16 = .ok (.lastore, 1) := by decide +kernel
theorem dX1_clear_17 : decode cX1_clear 17 = .ok (.iinc 1 1, 3) := by decide +kernel
theorem dX1_clear_20 : decode cX1_clear 20 = .ok (.goto (-18), 3) := by decide +kernel
theorem dX1_clear_23 : decode cX1_clear 23 = .ok (.aload_n 0, 1) := by decide +kernel
theorem dX1_clear_24 : decode cX1_clear 24 = .ok (.iconst 0, 1) := by decide +kernel
theorem dX1_clear_25 : decode cX1_clear 25 = .ok (.putfield 13, 3) := by decide +kernel
theorem dX1_clear_28 : decode cX1_clear 28 = .ok (.return_, 1) := by decide +kernel
set_option maxRecDepth 20000 in
theorem ggX1_precision_X1_figure : GoodIn wsX1_precision wsX1_figure := goodIn_r _ [10, 1, 11, 12, 13, 14, 15] (by decide +kernel) (by decide +kernel)
set_option maxRecDepth 20000 in
theorem gX1_precision_X1_figure : GoodIn wsX1_precision (wsV RX1 34 RX1 yX1_figure wsX1_figure) := goodIn_app (goodIn_of _ (by decide +kernel)) ggX1_precision_X1_figure
theorem dX1_precision_0 : decode cX1_precision 0 = .ok (.aload_n 0, 1) := by decide +kernel
theorem dX1_precision_1 : decode cX1_precision 1 = .ok (.getfield 13, 3) := by decide +kernel
theorem dX1_precision_4 : decode cX1_precision 4 = .ok (.bipush 6, 2) := by decide +kernel
theorem dX1_precision_6 : decode cX1_precision 6 = .ok (.imul, 1) := by decide +kernel
theorem dX1_precision_7 : decode cX1_precision 7 = .ok (.istore_n 1, 1) := by decide +kernel
theorem dX1_precision_8 : decode cX1_precision 8 = .ok (.iload_n 1, 1) := by decide +kernel
theorem dX1_precision_9 : decode cX1_precision 9 = .ok (.iconst 1, 1) := by decide +kernel
theorem dX1_precision_10 : decode cX1_precision 10 = .ok (.if_icmp .le 19, 3) := by decide +kernel
theorem dX1_precision_13 : decode cX1_precision 13 = .ok (.aload_n 0, 1) := by decide +kernel
theorem dX1_precision_14 : decode cX1_precision 14 = .ok (.iload_n 1, 1) := by decide +kernel
theorem dX1_precision_15 : decode cX1_precision 15 = .ok (.iconst 1, 1) := by decide +kernel
theorem dX1_precision_16 : decode cX1_precision 16 = .ok (.isub, 1) := by decide +kernel
theorem dX1_precision_17 : decode cX1_precision 17 = .ok (.invokevirtual 34, 3) := by decide +kernel
theorem dX1_precision_20 : decode cX1_precision 20 = .ok (.ifCond .ne 9, 3) := by decide +kernel
theorem dX1_precision_23 : decode cX1_precision 23 = .ok (.iinc 1 (-1), 3) := by decide +kernel
theorem dX1_precision_26 : decode cX1_precision 26 = .ok (.goto (-18), 3) := by decide +kernel
theorem dX1_precision_29 : decode cX1_precision 29 = .ok (.iload_n 1, 1) := by decide +kernel
theorem dX1_precision_30 : decode cX1_precision 30 = .ok (.iconst 1, 1) := by decide +kernel
theorem dX1_precision_31 : decode cX1_precision 31 = .ok (.invokestatic 38, 3) := by decide +kernel
theorem dX1_precision_34 : decode cX1_precision 34 = .ok (.ireturn, 1) := by decide +kernel
theorem dX1_figure_0 : decode cX1_figure 0 = .ok (.iload_n 1, 1) := by decide +kernel
theorem dX1_figure_1 : decode cX1_figure 1 = .ok (.bipush 6, 2) := by decide +kernel
theorem dX1_figure_3 : decode cX1_figure 3 = .ok (.idiv, 1) := by decide +kernel
theorem dX1_figure_4 : decode cX1_figure 4 = .ok (.istore_n 2, 1) := by decide +kernel
theorem dX1_figure_5 : decode cX1_figure 5 = .ok (.iload_n 1, 1) := by decide +kernel
theorem dX1_figure_6 : decode cX1_figure 6 = .ok (.ifCond .lt 11, 3) := by decide +kernel
theorem dX1_figure_9 : decode cX1_figure 9 = .ok (.iload_n 2, 1) := by decide +kernel
theorem dX1_figure_10 : decode cX1_figure 10 = .ok (.aload_n 0, 1) := by decide +kernel
theorem dX1_figure_11 : decode cX1_figure 11 = .ok (.getfield 13, 3) := by decide +kernel
theorem dX1_figure_14 : decode cX1_figure 14 = .ok (.if_icmp .lt 5, 3) := by decide +kernel
theorem dX1_figure_17 : decode cX1_figure 17 = .ok (.iconst 0, 1) := by decide +kernel
theorem dX1_figure_18 : decode cX1_figure 18 = .ok (.ireturn, 1) := by decide +kernel
theorem dX1_figure_19 : decode cX1_figure 19 = .ok (.aload_n 0, 1) := by decide +kernel
theorem dX1_figure_20 : decode cX1_figure 20 = .ok (.getfield 9, 3) := by decide +kernel
theorem dX1_figure_23 : decode cX1_figure 23 = .ok (.iload_n 2, 1) := by decide +kernel
theorem dX1_figure_24 : decode cX1_figure 24 = .ok (.laload, 1) := by decide +kernel
theorem dX1_figure_25 : decode cX1_figure 25 = .ok (.getstatic 42, 3) := by decide +kernel
theorem dX1_figure_28 : decode cX1_figure 28 = .ok (.iload_n 1, 1) := by decide +kernel
theorem dX1_figure_29 : decode cX1_figure 29 = .ok (.bipush 6, 2) := by decide +kernel
theorem dX1_figure_31 : decode cX1_figure 31 = .ok (.irem, 1) := by decide +kernel
theorem dX1_figure_32 : decode cX1_figure 32 = .ok (.laload, 1) := by decide +kernel
theorem dX1_figure_33 : decode cX1_figure 33 = .ok (.ldiv, 1) := by decide +kernel
theorem dX1_figure_34 : decode cX1_figure 34 = .ok (.ldc2_w 45, 3) := by decide +kernel
theorem dX1_figure_37 : decode cX1_figure 37 = .ok (.lrem, 1) := by decide +kernel
theorem dX1_figure_38 : decode cX1_figure 38 = .ok (.l2i, 1) := by decide +kernel
theorem dX1_figure_39 : decode cX1_figure 39 = .ok (.ireturn, 1) := by decide +kernel
set_option maxRecDepth 20000 in
theorem ggX1_zerosAtEnd_X1_figure : GoodIn wsX1_zerosAtEnd wsX1_figure := goodIn_r _ [6, 1, 7, 8, 9, 10, 11] (by decide +kernel) (by decide +kernel)
set_option maxRecDepth 20000 in
theorem gX1_zerosAtEnd_X1_figure : GoodIn wsX1_zerosAtEnd (wsV RX1 34 RX1 yX1_figure wsX1_figure) := goodIn_app (goodIn_of _ (by decide +kernel)) ggX1_zerosAtEnd_X1_figure
theorem dX1_zerosAtEnd_0 : decode cX1_zerosAtEnd 0 = .ok (.aload_n 0, 1) := by decide +kernel
theorem dX1_zerosAtEnd_1 : decode cX1_zerosAtEnd 1 = .ok (.getfield 13, 3) := by decide +kernel
theorem dX1_zerosAtEnd_4 : decode cX1_zerosAtEnd 4 = .ok (.bipush 6, 2) := by decide +kernel
theorem dX1_zerosAtEnd_6 : decode cX1_zerosAtEnd 6 = .ok (.imul, 1) := by decide +kernel
theorem dX1_zerosAtEnd_7 : decode cX1_zerosAtEnd 7 = .ok (.istore_n 1, 1) := by decide +kernel
theorem dX1_zerosAtEnd_8 : decode cX1_zerosAtEnd 8 = .ok (.iconst 0, 1) := by decide +kernel
theorem dX1_zerosAtEnd_9 : decode cX1_zerosAtEnd 9 = .ok (.istore_n 2, 1) := by decide +kernel
theorem dX1_zerosAtEnd_10 : decode cX1_zerosAtEnd 10 = .ok (.iload_n 2, 1) := by decide +kernel
theorem dX1_zerosAtEnd_11 : decode cX1_zerosAtEnd 11 = .ok (.iload_n 1, 1) := by decide +kernel
theorem dX1_zerosAtEnd_12 : decode cX1_zerosAtEnd 12 = .ok (.if_icmp .ge 17, 3) := by decide +kernel
theorem dX1_zerosAtEnd_15 : decode cX1_zerosAtEnd 15 = .ok (.aload_n 0, 1) := by decide +kernel
theorem dX1_zerosAtEnd_16 : decode cX1_zerosAtEnd 16 = .ok (.iload_n 2, 1) := by decide +kernel
theorem dX1_zerosAtEnd_17 : decode cX1_zerosAtEnd 17 = .ok (.invokevirtual 34, 3) := by decide +kernel
theorem dX1_zerosAtEnd_20 : decode cX1_zerosAtEnd 20 = .ok (.ifCond .ne 9, 3) := by decide +kernel
theorem dX1_zerosAtEnd_23 : decode cX1_zerosAtEnd 23 = .ok (.iinc 2 1, 3) := by decide +kernel
theorem dX1_zerosAtEnd_26 : decode cX1_zerosAtEnd 26 = .ok (.goto (-16), 3) := by decide +kernel
theorem dX1_zerosAtEnd_29 : decode cX1_zerosAtEnd 29 = .ok (.iload_n 2, 1) := by decide +kernel
theorem dX1_zerosAtEnd_30 : decode cX1_zerosAtEnd 30 = .ok (.ireturn, 1) := by decide +kernel
theorem dX1_lowestBits_0 : decode cX1_lowestBits 0 = .ok (.lconst 0, 1) := by decide +kernel
theorem dX1_lowestBits_1 : decode cX1_lowestBits 1 = .ok (.lstore_n 1, 1) := by decide +kernel
theorem dX1_lowestBits_2 : decode cX1_lowestBits 2 = .ok (.aload_n 0, 1) := by decide +kernel
theorem dX1_lowestBits_3 : decode cX1_lowestBits 3 = .ok (.getfield 13, 3) := by decide +kernel
theorem dX1_lowestBits_6 : decode cX1_lowestBits 6 = .ok (.iconst 1, 1) := by decide +kernel
theorem dX1_lowestBits_7 : decode cX1_lowestBits 7 = .ok (.isub, 1) := by decide +kernel
theorem dX1_lowestBits_8 : decode cX1_lowestBits 8 = .ok (.istore_n 3, 1) := by decide +kernel
theorem dX1_lowestBits_9 : decode cX1_lowestBits 9 = .ok (.iload_n 3, 1) := by decide +kernel
theorem dX1_lowestBits_10 : decode cX1_lowestBits 10 = .ok (.ifCond .lt 22, 3) := by decide +kernel
theorem dX1_lowestBits_13 : decode cX1_lowestBits 13 = .ok (.lload_n 1, 1) := by decide +kernel
theorem dX1_lowestBits_14 : decode cX1_lowestBits 14 = .ok (.ldc2_w 26, 3) := by decide +kernel
theorem dX1_lowestBits_17 : decode cX1_lowestBits 17 = .ok (.lmul, 1) := by decide +kernel
theorem dX1_lowestBits_18 : decode cX1_lowestBits 18 = .ok (.aload_n 0, 1) := by decide +kernel
theorem dX1_lowestBits_19 : decode cX1_lowestBits 19 = .ok (.getfield 9, 3) := by decide +kernel
theorem dX1_lowestBits_22 : decode cX1_lowestBits 22 = .ok (.iload_n 3, 1) := by decide +kernel
theorem dX1_lowestBits_23 : decode cX1_lowestBits 23 = .ok (.laload, 1) := by decide +kernel
theorem dX1_lowestBits_24 : decode cX1_lowestBits 24 = .ok (.ladd, 1) := by decide +kernel
theorem dX1_lowestBits_25 : decode cX1_lowestBits 25 = .ok (.lstore_n 1, 1) := by decide +kernel
theorem dX1_lowestBits_26 : decode cX1_lowestBits 26 = .ok (.iinc 3 (-1), 3) := by decide +kernel
theorem dX1_lowestBits_29 : decode cX1_lowestBits 29 = .ok (.goto (-20), 3) := by decide +kernel
theorem dX1_lowestBits_32 : decode cX1_lowestBits 32 = .ok (.lload_n 1, 1) := by decide +kernel
theorem dX1_lowestBits_33 : decode cX1_lowestBits 33 = .ok (.lreturn, 1) := by decide +kernel
theorem dX1_order_0 : decode cX1_order 0 = .ok (.aload_n 0, 1) := by decide +kernel
theorem dX1_order_1 : decode cX1_order 1 = .ok (.getfield 13, 3) := by decide +kernel
theorem dX1_order_4 : decode cX1_order 4 = .ok (.aload_n 1, 1) := by decide +kernel
theorem dX1_order_5 : decode cX1_order 5 = .ok (.getfield 13, 3) := by decide +kernel
theorem dX1_order_8 : decode cX1_order 8 = .ok (.if_icmp .eq 20, 3) := by decide +kernel
theorem dX1_order_11 : decode cX1_order 11 = .ok (.aload_n 0, 1) := by decide +kernel
theorem dX1_order_12 : decode cX1_order 12 = .ok (.getfield 13, 3) := by decide +kernel
theorem dX1_order_15 : decode cX1_order 15 = .ok (.aload_n 1, 1) := by decide +kernel
theorem dX1_order_16 : decode cX1_order 16 = .ok (.getfield 13, 3) := by decide +kernel
theorem dX1_order_19 : decode cX1_order 19 = .ok (.if_icmp .ge 7, 3) := by decide +kernel
theorem dX1_order_22 : decode cX1_order 22 = .ok (.iconst (-1), 1) := by decide +kernel
theorem dX1_order_23 : decode cX1_order 23 = .ok (.goto 4, 3) := by decide +kernel
theorem dX1_order_26 : decode cX1_order 26 = .ok (.iconst 1, 1) := by decide +kernel
theorem dX1_order_27 : decode cX1_order 27 = .ok (.ireturn, 1) := by decide +kernel
theorem dX1_order_28 : decode cX1_order 28 = .ok (.aload_n 0, 1) := by decide +kernel
theorem dX1_order_29 : decode cX1_order 29 = .ok (.getfield 13, 3) := by decide +kernel
theorem dX1_order_32 : decode cX1_order 32 = .ok (.iconst 1, 1) := by decide +kernel
theorem dX1_order_33 : decode cX1_order 33 = .ok (.isub, 1) := by decide +kernel
theorem dX1_order_34 : decode cX1_order 34 = .ok (.istore_n 2, 1) := by decide +kernel
theorem dX1_order_35 : decode cX1_order 35 = .ok (.iload_n 2, 1) := by decide +kernel
theorem dX1_order_36 : decode cX1_order 36 = .ok (.ifCond .lt 47, 3) := by decide +kernel
theorem dX1_order_39 : decode cX1_order 39 = .ok (.aload_n 0, 1) := by decide +kernel
theorem dX1_order_40 : decode cX1_order 40 = .ok (.getfield 9, 3) := by decide +kernel
theorem dX1_order_43 : decode cX1_order 43 = .ok (.iload_n 2, 1) := by decide +kernel
theorem dX1_order_44 : decode cX1_order 44 = .ok (.laload, 1) := by decide +kernel
theorem dX1_order_45 : decode cX1_order 45 = .ok (.aload_n 1, 1) := by decide +kernel
theorem dX1_order_46 : decode cX1_order 46 = .ok (.getfield 9, 3) := by decide +kernel
theorem dX1_order_49 : decode cX1_order 49 = .ok (.iload_n 2, 1) := by decide +kernel
theorem dX1_order_50 : decode cX1_order 50 = .ok (.laload, 1) := by decide +kernel
theorem dX1_order_51 : decode cX1_order 51 = .ok (.lcmp, 1) := by decide +kernel
theorem dX1_order_52 : decode cX1_order 52 = .ok (.ifCond .eq 25, 3) := by decide +kernel
theorem dX1_order_55 : decode cX1_order 55 = .ok (.aload_n 0, 1) := by decide +kernel
theorem dX1_order_56 : decode cX1_order 56 = .ok (.getfield 9, 3) := by decide +kernel
theorem dX1_order_59 : decode cX1_order 59 = .ok (.iload_n 2, 1) := by decide +kernel
theorem dX1_order_60 : decode cX1_order 60 = .ok (.laload, 1) := by decide +kernel
theorem dX1_order_61 : decode cX1_order 61 = .ok (.aload_n 1, 1) := by decide +kernel
theorem dX1_order_62 : decode cX1_order 62 = .ok (.getfield 9, 3) := by decide +kernel
theorem dX1_order_65 : decode cX1_order 65 = .ok (.iload_n 2, 1) := by decide +kernel
theorem dX1_order_66 : decode cX1_order 66 = .ok (.laload, 1) := by decide +kernel
theorem dX1_order_67 : decode cX1_order 67 = .ok (.lcmp, 1) := by decide +kernel
theorem dX1_order_68 : decode cX1_order 68 = .ok (.ifCond .ge 7, 3) := by decide +kernel
theorem dX1_order_71 : decode cX1_order 71 = .ok (.iconst (-1), 1) := by decide +kernel
theorem dX1_order_72 : decode cX1_order 72 = .ok (.goto 4, 3) := by decide +kernel
theorem dX1_order_75 : decode cX1_order 75 = .ok (.iconst 1, 1) := by decide +kernel
theorem dX1_order_76 : decode cX1_order 76 = .ok (.ireturn, 1) := by decide +kernel
theorem dX1_order_77 : decode cX1_order 77 = .ok (.iinc 2 (-1), 3) := by decide +kernel
theorem dX1_order_80 : decode cX1_order 80 = .ok (.goto (-45), 3) := by decide +kernel
theorem dX1_order_83 : decode cX1_order 83 = .ok (.iconst 0, 1) := by decide +kernel
theorem dX1_order_84 : decode cX1_order 84 = .ok (.ireturn, 1) := by decide +kernel
set_option maxRecDepth 20000 in
theorem ggX1_add_X1_close : GoodIn wsX1_add wsX1_close := goodIn_r _ [12, 1, 6, 13, 14] (by decide +kernel) (by decide +kernel)
set_option maxRecDepth 20000 in
theorem gX1_add_X1_close : GoodIn wsX1_add (wsV RX1 47 RX1 yX1_close wsX1_close) := goodIn_app (goodIn_of _ (by decide +kernel)) ggX1_add_X1_close
theorem dX1_add_0 : decode cX1_add 0 = .ok (.aload_n 0, 1) := by decide +kernel
theorem dX1_add_1 : decode cX1_add 1 = .ok (.getfield 13, 3) := by decide +kernel
theorem dX1_add_4 : decode cX1_add 4 = .ok (.aload_n 1, 1) := by decide +kernel
theorem dX1_add_5 : decode cX1_add 5 = .ok (.getfield 13, 3) := by decide +kernel
theorem dX1_add_8 : decode cX1_add 8 = .ok (.invokestatic 38, 3) := by decide +kernel
theorem dX1_add_11 : decode cX1_add 11 = .ok (.istore_n 2, 1) := by decide +kernel
theorem dX1_add_12 : decode cX1_add 12 = .ok (.lconst 0, 1) := by decide +kernel
theorem dX1_add_13 : decode cX1_add 13 = .ok (.lstore_n 3, 1) := by decide +kernel
theorem dX1_add_14 : decode cX1_add 14 = .ok (.iconst 0, 1) := by decide +kernel
theorem dX1_add_15 : decode cX1_add 15 = .ok (.istore 5, 2) := by decide +kernel
theorem dX1_add_17 : decode cX1_add 17 = .ok (.iload 5, 2) := by decide +kernel
theorem dX1_add_19 : decode cX1_add 19 = .ok (.iload_n 2, 1) := by decide +kernel
theorem dX1_add_20 : decode cX1_add 20 = .ok (.if_icmp .ge 48, 3) := by decide +kernel
theorem dX1_add_23 : decode cX1_add 23 = .ok (.aload_n 0, 1) := by decide +kernel
theorem dX1_add_24 : decode cX1_add 24 = .ok (.getfield 9, 3) := by decide +kernel
theorem dX1_add_27 : decode cX1_add 27 = .ok (.iload 5, 2) := by decide +kernel
theorem dX1_add_29 : decode cX1_add 29 = .ok (.laload, 1) := by decide +kernel
theorem dX1_add_30 : decode cX1_add 30 = .ok (.aload_n 1, 1) := by decide +kernel
theorem dX1_add_31 : decode cX1_add 31 = .ok (.getfield 9, 3) := by decide +kernel
theorem dX1_add_34 : decode cX1_add 34 = .ok (.iload 5, 2) := by decide +kernel
theorem dX1_add_36 : decode cX1_add 36 = .ok (.laload, 1) := by decide +kernel
theorem dX1_add_37 : decode cX1_add 37 = .ok (.ladd, 1) := by decide +kernel
theorem dX1_add_38 : decode cX1_add 38 = .ok (.lload_n 3, 1) := by decide +kernel
theorem dX1_add_39 : decode cX1_add 39 = .ok (.ladd, 1) := by decide +kernel
theorem dX1_add_40 : decode cX1_add 40 = .ok (.lstore 6, 2) := by decide +kernel
theorem dX1_add_42 : decode cX1_add 42 = .ok (.aload_n 0, 1) := by decide +kernel
theorem dX1_add_43 : decode cX1_add 43 = .ok (.getfield 9, 3) := by decide +kernel
theorem dX1_add_46 : decode cX1_add 46 = .ok (.iload 5, 2) := by decide +kernel
theorem dX1_add_48 : decode cX1_add 48 = .ok (.lload 6, 2) := by decide +kernel
theorem dX1_add_50 : decode cX1_add 50 = .ok (.ldc2_w 26, 3) := by decide +kernel
theorem dX1_add_53 : decode cX1_add 53 = .ok (.lrem, 1) := by decide +kernel
theorem dX1_add_54 : decode cX1_add 54 = .ok (.lastore, 1) := by decide +kernel
theorem dX1_add_55 : decode cX1_add 55 = .ok (.lload 6, 2) := by decide +kernel
theorem dX1_add_57 : decode cX1_add 57 = .ok (.ldc2_w 26, 3) := by decide +kernel
theorem dX1_add_60 : decode cX1_add 60 = .ok (.ldiv, 1) := by decide +kernel
theorem dX1_add_61 : decode cX1_add 61 = .ok (.lstore_n 3, 1) := by decide +kernel
theorem dX1_add_62 : decode cX1_add 62 = .ok (.iinc 5 1, 3) := by decide +kernel
theorem dX1_add_65 : decode cX1_add 65 = .ok (.goto (-48), 3) := by decide +kernel
theorem dX1_add_68 : decode cX1_add 68 = .ok (.aload_n 0, 1) := by decide +kernel
theorem dX1_add_69 : decode cX1_add 69 = .ok (.iload_n 2, 1) := by decide +kernel
theorem dX1_add_70 : decode cX1_add 70 = .ok (.lload_n 3, 1) := by decide +kernel
theorem dX1_add_71 : decode cX1_add 71 = .ok (.invokevirtual 47, 3) := by decide +kernel
theorem dX1_add_74 : decode cX1_add 74 = .ok (.return_, 1) := by decide +kernel
set_option maxRecDepth 20000 in
theorem ggX1_subtract_X1_shrink : GoodIn wsX1_subtract wsX1_shrink := goodIn_r _ [8, 1, 2, 9, 10] (by decide +kernel) (by decide +kernel)
set_option maxRecDepth 20000 in
theorem gX1_subtract_X1_shrink : GoodIn wsX1_subtract (wsV RX1 51 RX1 yX1_shrink wsX1_shrink) := goodIn_app (goodIn_of _ (by decide +kernel)) ggX1_subtract_X1_shrink
theorem dX1_subtract_0 : decode cX1_subtract 0 = .ok (.lconst 0, 1) := by decide +kernel
theorem dX1_subtract_1 : decode cX1_subtract 1 = .ok (.lstore_n 2, 1) := by decide +kernel
theorem dX1_subtract_2 : decode cX1_subtract 2 = .ok (.iconst 0, 1) := by decide +kernel
theorem dX1_subtract_3 : decode cX1_subtract 3 = .ok (.istore 4, 2) := by decide +kernel
theorem dX1_subtract_5 : decode cX1_subtract 5 = .ok (.iload 4, 2) := by decide +kernel
theorem dX1_subtract_7 : decode cX1_subtract 7 = .ok (.aload_n 0, 1) := by decide +kernel
theorem dX1_subtract_8 : decode cX1_subtract 8 = .ok (.getfield 13, 3) := by decide +kernel
theorem dX1_subtract_11 : decode cX1_subtract 11 = .ok (.if_icmp .ge 56, 3) := by decide +kernel
theorem dX1_subtract_14 : decode cX1_subtract 14 = .ok (.aload_n 0, 1) := by decide +kernel
theorem dX1_subtract_15 : decode cX1_subtract 15 = .ok (.getfield 9, 3) := by decide +kernel
theorem dX1_subtract_18 : decode cX1_subtract 18 = .ok (.iload 4, 2) := by decide +kernel
theorem dX1_subtract_20 : decode cX1_subtract 20 = .ok (.laload, 1) := by decide +kernel
theorem dX1_subtract_21 : decode cX1_subtract 21 = .ok (.aload_n 1, 1) := by decide +kernel
theorem dX1_subtract_22 : decode cX1_subtract 22 = .ok (.getfield 9, 3) := by decide +kernel
theorem dX1_subtract_25 : decode cX1_subtract 25 = .ok (.iload 4, 2) := by decide +kernel
theorem dX1_subtract_27 : decode cX1_subtract 27 = .ok (.laload, 1) := by decide +kernel
theorem dX1_subtract_28 : decode cX1_subtract 28 = .ok (.lsub, 1) := by decide +kernel
theorem dX1_subtract_29 : decode cX1_subtract 29 = .ok (.lload_n 2, 1) := by decide +kernel
theorem dX1_subtract_30 : decode cX1_subtract 30 = .ok (.lsub, 1) := by decide +kernel
theorem dX1_subtract_31 : decode cX1_subtract 31 = .ok (.lstore 5, 2) := by decide +kernel
theorem dX1_subtract_33 : decode cX1_subtract 33 = .ok (.lload 5, 2) := by decide +kernel
theorem dX1_subtract_35 : decode cX1_subtract 35 = .ok (.lconst 0, 1) := by decide +kernel
theorem dX1_subtract_36 : decode cX1_subtract 36 = .ok (.lcmp, 1) := by decide +kernel
theorem dX1_subtract_37 : decode cX1_subtract 37 = .ok (.ifCond .ge 7, 3) := by decide +kernel
theorem dX1_subtract_40 : decode cX1_subtract 40 = .ok (.lconst 1, 1) := by decide +kernel
theorem dX1_subtract_41 : decode cX1_subtract 41 = .ok (.goto 4, 3) := by decide +kernel
theorem dX1_subtract_44 : decode cX1_subtract 44 = .ok (.lconst 0, 1) := by decide +kernel
theorem dX1_subtract_45 : decode cX1_subtract 45 = .ok (.lstore_n 2, 1) := by decide +kernel
theorem dX1_subtract_46 : decode cX1_subtract 46 = .ok (.aload_n 0, 1) := by decide +kernel
theorem dX1_subtract_47 : decode cX1_subtract 47 = .ok (.getfield 9, 3) := by decide +kernel
theorem dX1_subtract_50 : decode cX1_subtract 50 = .ok (.iload 4, 2) := by decide +kernel
theorem dX1_subtract_52 : decode cX1_subtract 52 = .ok (.lload 5, 2) := by decide +kernel
theorem dX1_subtract_54 : decode cX1_subtract 54 = .ok (.lload_n 2, 1) := by decide +kernel
theorem dX1_subtract_55 : decode cX1_subtract 55 = .ok (.ldc2_w 26, 3) := by decide +kernel
theorem dX1_subtract_58 : decode cX1_subtract 58 = .ok (.lmul, 1) := by decide +kernel
theorem dX1_subtract_59 : decode cX1_subtract 59 = .ok (.ladd, 1) := by decide +kernel
theorem dX1_subtract_60 : decode cX1_subtract 60 = .ok (.lastore, 1) := by decide +kernel
theorem dX1_subtract_61 : decode cX1_subtract 61 = .ok (.iinc 4 1, 3) := by decide +kernel
theorem dX1_subtract_64 : decode cX1_subtract 64 = .ok (.goto (-59), 3) := by decide +kernel
theorem dX1_subtract_67 : decode cX1_subtract 67 = .ok (.aload_n 0, 1) := by decide +kernel
theorem dX1_subtract_68 : decode cX1_subtract 68 = .ok (.invokevirtual 51, 3) := by decide +kernel
theorem dX1_subtract_71 : decode cX1_subtract 71 = .ok (.return_, 1) := by decide +kernel
set_option maxRecDepth 20000 in
theorem ggX1_becomeProduct_X1_clear : GoodIn wsX1_becomeProduct wsX1_clear := goodIn_r _ [8, 1, 2, 13, 14] (by decide +kernel) (by decide +kernel)
set_option maxRecDepth 20000 in
theorem gX1_becomeProduct_X1_clear : GoodIn wsX1_becomeProduct (wsV RX1 23 RX1 yX1_clear wsX1_clear) := goodIn_app (goodIn_of _ (by decide +kernel)) ggX1_becomeProduct_X1_clear
set_option maxRecDepth 20000 in
theorem ggX1_becomeProduct_X1_shrink : GoodIn wsX1_becomeProduct wsX1_shrink := goodIn_r _ [12, 1, 2, 13, 14] (by decide +kernel) (by decide +kernel)
set_option maxRecDepth 20000 in
theorem gX1_becomeProduct_X1_shrink : GoodIn wsX1_becomeProduct (wsV RX1 51 RX1 yX1_shrink wsX1_shrink) := goodIn_app (goodIn_of _ (by decide +kernel)) ggX1_becomeProduct_X1_shrink
theorem dX1_becomeProduct_0 : decode cX1_becomeProduct 0 = .ok (.aload_n 0, 1) := by decide +kernel
theorem dX1_becomeProduct_1 : decode cX1_becomeProduct 1 = .ok (.invokevirtual 23, 3) := by decide +kernel
theorem dX1_becomeProduct_4 : decode cX1_becomeProduct 4 = .ok (.aload_n 1, 1) := by decide +kernel
theorem dX1_becomeProduct_5 : decode cX1_becomeProduct 5 = .ok (.getfield 13, 3) := by decide +kernel
theorem dX1_becomeProduct_8 : decode cX1_becomeProduct 8 = .ok (.aload_n 2, 1) := by decide +kernel
theorem dX1_becomeProduct_9 : decode cX1_becomeProduct 9 = .ok (.getfield 13, 3) := by decide +kernel
theorem dX1_becomeProduct_12 : decode cX1_becomeProduct 12 = .ok (.iadd, 1) := by decide +kernel
theorem dX1_becomeProduct_13 : decode cX1_becomeProduct 13 = .ok (.bipush 64, 2) := by decide +kernel
theorem dX1_becomeProduct_15 : decode cX1_becomeProduct 15 = .ok (.if_icmp .le 4, 3) := by decide +kernel
theorem dX1_becomeProduct_18 : decode cX1_becomeProduct 18 = .ok (.return_, 1) := by decide +kernel
theorem dX1_becomeProduct_19 : decode cX1_becomeProduct 19 = .ok (.iconst 0, 1) := by decide +kernel
theorem dX1_becomeProduct_20 : decode cX1_becomeProduct 20 = .ok (.istore_n 3, 1) := by decide +kernel
theorem dX1_becomeProduct_21 : decode cX1_becomeProduct 21 = .ok (.iload_n 3, 1) := by decide +kernel
theorem dX1_becomeProduct_22 : decode cX1_becomeProduct 22 = .ok (.aload_n 1, 1) := by decide +kernel
theorem dX1_becomeProduct_23 : decode cX1_becomeProduct 23 = .ok (.getfield 13, 3) := by decide +kernel
theorem dX1_becomeProduct_26 : decode cX1_becomeProduct 26 = .ok (.if_icmp .ge 95, 3) := by decide +kernel
theorem dX1_becomeProduct_29 : decode cX1_becomeProduct 29 = .ok (.lconst 0, 1) := by decide +kernel
theorem dX1_becomeProduct_30 : decode cX1_becomeProduct 30 = .ok (.lstore 4, 2) := by decide +kernel
theorem dX1_becomeProduct_32 : decode cX1_becomeProduct 32 = .ok (.iconst 0, 1) := by decide +kernel
theorem dX1_becomeProduct_33 : decode cX1_becomeProduct 33 = .ok (.istore 6, 2) := by decide +kernel
theorem dX1_becomeProduct_35 : decode cX1_becomeProduct 35 = .ok (.iload 6, 2) := by decide +kernel
theorem dX1_becomeProduct_37 : decode cX1_becomeProduct 37 = .ok (.aload_n 2, 1) := by decide +kernel
theorem dX1_becomeProduct_38 : decode cX1_becomeProduct 38 = .ok (.getfield 13, 3) := by decide +kernel
theorem dX1_becomeProduct_41 : decode cX1_becomeProduct 41 = .ok (.if_icmp .ge 61, 3) := by decide +kernel
theorem dX1_becomeProduct_44 : decode cX1_becomeProduct 44 = .ok (.aload_n 0, 1) := by decide +kernel
theorem dX1_becomeProduct_45 : decode cX1_becomeProduct 45 = .ok (.getfield 9, 3) := by decide +kernel
theorem dX1_becomeProduct_48 : decode cX1_becomeProduct 48 = .ok (.iload_n 3, 1) := by decide +kernel
theorem dX1_becomeProduct_49 : decode cX1_becomeProduct 49 = .ok (.iload 6, 2) := by decide +kernel
theorem dX1_becomeProduct_51 : decode cX1_becomeProduct 51 = .ok (.iadd, 1) := by decide +kernel
theorem dX1_becomeProduct_52 : decode cX1_becomeProduct 52 = .ok (.laload, 1) := by decide +kernel
theorem dX1_becomeProduct_53 : decode cX1_becomeProduct 53 = .ok (.aload_n 1, 1) := by decide +kernel
theorem dX1_becomeProduct_54 : decode cX1_becomeProduct 54 = .ok (.getfield 9, 3) := by decide +kernel
theorem dX1_becomeProduct_57 : decode cX1_becomeProduct 57 = .ok (.iload_n 3, 1) := by decide +kernel
theorem dX1_becomeProduct_58 : decode cX1_becomeProduct 58 = .ok (.laload, 1) := by decide +kernel
theorem dX1_becomeProduct_59 : decode cX1_becomeProduct 59 = .ok (.aload_n 2, 1) := by decide +kernel
theorem dX1_becomeProduct_60 : decode cX1_becomeProduct 60 = .ok (.getfield 9, 3) := by decide +kernel
theorem dX1_becomeProduct_63 : decode cX1_becomeProduct 63 = .ok (.iload 6, 2) := by decide +kernel
theorem dX1_becomeProduct_65 : decode cX1_becomeProduct 65 = .ok (.laload, 1) := by decide +kernel
theorem dX1_becomeProduct_66 : decode cX1_becomeProduct 66 = .ok (.lmul, 1) := by decide +kernel
theorem dX1_becomeProduct_67 : decode cX1_becomeProduct 67 = .ok (.ladd, 1) := by decide +kernel
theorem dX1_becomeProduct_68 : decode cX1_becomeProduct 68 = .ok (.lload 4, 2) := by decide +kernel
theorem dX1_becomeProduct_70 : decode cX1_becomeProduct 70 = .ok (.ladd, 1) := by decide +kernel
theorem dX1_becomeProduct_71 : decode cX1_becomeProduct 71 = .ok (.lstore 7, 2) := by decide +kernel
theorem dX1_becomeProduct_73 : decode cX1_becomeProduct 73 = .ok (.aload_n 0, 1) := by decide +kernel
theorem dX1_becomeProduct_74 : decode cX1_becomeProduct 74 = .ok (.getfield 9, 3) := by decide +kernel
theorem dX1_becomeProduct_77 : decode cX1_becomeProduct 77 = .ok (.iload_n 3, 1) := by decide +kernel
theorem dX1_becomeProduct_78 : decode cX1_becomeProduct 78 = .ok (.iload 6, 2) := by decide +kernel
theorem dX1_becomeProduct_80 : decode cX1_becomeProduct 80 = .ok (.iadd, 1) := by decide +kernel
theorem dX1_becomeProduct_81 : decode cX1_becomeProduct 81 = .ok (.lload 7, 2) := by decide +kernel
theorem dX1_becomeProduct_83 : decode cX1_becomeProduct 83 = .ok (.ldc2_w 26, 3) := by decide +kernel
theorem dX1_becomeProduct_86 : decode cX1_becomeProduct 86 = .ok (.lrem, 1) := by decide +kernel
theorem dX1_becomeProduct_87 : decode cX1_becomeProduct 87 = .ok (.lastore, 1) := by decide +kernel
theorem dX1_becomeProduct_88 : decode cX1_becomeProduct 88 = .ok (.lload 7, 2) := by decide +kernel
theorem dX1_becomeProduct_90 : decode cX1_becomeProduct 90 = .ok (.ldc2_w 26, 3) := by decide +kernel
theorem dX1_becomeProduct_93 : decode cX1_becomeProduct 93 = .ok (.ldiv, 1) := by decide +kernel
theorem dX1_becomeProduct_94 : decode cX1_becomeProduct 94 = .ok (.lstore 4, 2) := by decide +kernel
theorem dX1_becomeProduct_96 : decode cX1_becomeProduct 96 = .ok (.iinc 6 1, 3) := by decide +kernel
theorem dX1_becomeProduct_99 : decode cX1_becomeProduct 99 = .ok (.goto (-64), 3) := by decide +kernel
theorem dX1_becomeProduct_102 : decode cX1_becomeProduct 102 = .ok (.aload_n 0, 1) := by decide +kernel
theorem dX1_becomeProduct_103 : decode cX1_becomeProduct 103 = .ok (.getfield 9, 3) := by decide +kernel
theorem dX1_becomeProduct_106 : decode cX1_becomeProduct 106 = .ok (.iload_n 3, 1) := by decide +kernel
theorem dX1_becomeProduct_107 : decode cX1_becomeProduct 107 = .ok (.aload_n 2, 1) := by decide +kernel
theorem dX1_becomeProduct_108 : decode cX1_becomeProduct 108 = .ok (.getfield 13, 3) := by decide +kernel
theorem dX1_becomeProduct_111 : decode cX1_becomeProduct 111 = .ok (.iadd, 1) := by decide +kernel
theorem dX1_becomeProduct_112 : decode cX1_becomeProduct 112 = .ok (.lload 4, 2) := by decide +kernel
theorem dX1_becomeProduct_114 : decode cX1_becomeProduct 114 = .ok (.lastore, 1) := by decide +kernel
theorem dX1_becomeProduct_115 : decode cX1_becomeProduct 115 = .ok (.iinc 3 1, 3) := by decide +kernel
theorem dX1_becomeProduct_118 : decode cX1_becomeProduct 118 = .ok (.goto (-97), 3) := by decide +kernel
theorem dX1_becomeProduct_121 : decode cX1_becomeProduct 121 = .ok (.aload_n 0, 1) := by decide +kernel
theorem dX1_becomeProduct_122 : decode cX1_becomeProduct 122 = .ok (.aload_n 1, 1) := by decide +kernel
theorem dX1_becomeProduct_123 : decode cX1_becomeProduct 123 = .ok (.getfield 13, 3) := by decide +kernel
theorem dX1_becomeProduct_126 : decode cX1_becomeProduct 126 = .ok (.aload_n 2, 1) := by decide +kernel
theorem dX1_becomeProduct_127 : decode cX1_becomeProduct 127 = .ok (.getfield 13, 3) := by decide +kernel
theorem dX1_becomeProduct_130 : decode cX1_becomeProduct 130 = .ok (.iadd, 1) := by decide +kernel
theorem dX1_becomeProduct_131 : decode cX1_becomeProduct 131 = .ok (.putfield 13, 3) := by decide +kernel
theorem dX1_becomeProduct_134 : decode cX1_becomeProduct 134 = .ok (.aload_n 0, 1) := by decide +kernel
theorem dX1_becomeProduct_135 : decode cX1_becomeProduct 135 = .ok (.invokevirtual 51, 3) := by decide +kernel
theorem dX1_becomeProduct_138 : decode cX1_becomeProduct 138 = .ok (.return_, 1) := by decide +kernel
set_option maxRecDepth 20000 in
theorem ggX1_raise_X1_close : GoodIn wsX1_raise wsX1_close := goodIn_r _ [9, 1, 3, 14, 15] (by decide +kernel) (by decide +kernel)
set_option maxRecDepth 20000 in
theorem gX1_raise_X1_close : GoodIn wsX1_raise (wsV RX1 47 RX1 yX1_close wsX1_close) := goodIn_app (goodIn_of _ (by decide +kernel)) ggX1_raise_X1_close
set_option maxRecDepth 20000 in
theorem ggX1_raise_X1_shift : GoodIn wsX1_raise wsX1_shift := goodIn_r _ [13, 1, 3, 14, 15] (by decide +kernel) (by decide +kernel)
set_option maxRecDepth 20000 in
theorem gX1_raise_X1_shift : GoodIn wsX1_raise (wsV RX1 54 RX1 yX1_shift wsX1_shift) := goodIn_app (goodIn_of _ (by decide +kernel)) ggX1_raise_X1_shift
theorem dX1_raise_0 : decode cX1_raise 0 = .ok (.iload_n 1, 1) := by decide +kernel
theorem dX1_raise_1 : decode cX1_raise 1 = .ok (.bipush 6, 2) := by decide +kernel
theorem dX1_raise_3 : decode cX1_raise 3 = .ok (.idiv, 1) := by decide +kernel
theorem dX1_raise_4 : decode cX1_raise 4 = .ok (.istore_n 2, 1) := by decide +kernel
theorem dX1_raise_5 : decode cX1_raise 5 = .ok (.aload_n 0, 1) := by decide +kernel
theorem dX1_raise_6 : decode cX1_raise 6 = .ok (.getfield 13, 3) := by decide +kernel
theorem dX1_raise_9 : decode cX1_raise 9 = .ok (.ifCond .eq 18, 3) := by decide +kernel
theorem dX1_raise_12 : decode cX1_raise 12 = .ok (.iload_n 1, 1) := by decide +kernel
theorem dX1_raise_13 : decode cX1_raise 13 = .ok (.ifCond .le 14, 3) := by decide +kernel
theorem dX1_raise_16 : decode cX1_raise 16 = .ok (.aload_n 0, 1) := by decide +kernel
theorem dX1_raise_17 : decode cX1_raise 17 = .ok (.getfield 13, 3) := by decide +kernel
theorem dX1_raise_20 : decode cX1_raise 20 = .ok (.iload_n 2, 1) := by decide +kernel
theorem dX1_raise_21 : decode cX1_raise 21 = .ok (.iadd, 1) := by decide +kernel
theorem dX1_raise_22 : decode cX1_raise 22 = .ok (.bipush 64, 2) := by decide +kernel
theorem dX1_raise_24 : decode cX1_raise 24 = .ok (.if_icmp .lt 4, 3) := by decide +kernel
theorem dX1_raise_27 : decode cX1_raise 27 = .ok (.return_, 1) := by decide +kernel
theorem dX1_raise_28 : decode cX1_raise 28 = .ok (.getstatic 42, 3) := by decide +kernel
theorem dX1_raise_31 : decode cX1_raise 31 = .ok (.iload_n 1, 1) := by decide +kernel
theorem dX1_raise_32 : decode cX1_raise 32 = .ok (.bipush 6, 2) := by decide +kernel
theorem dX1_raise_34 : decode cX1_raise 34 = .ok (.irem, 1) := by decide +kernel
theorem dX1_raise_35 : decode cX1_raise 35 = .ok (.laload, 1) := by decide +kernel
theorem dX1_raise_36 : decode cX1_raise 36 = .ok (.lstore_n 3, 1) := by decide +kernel
theorem dX1_raise_37 : decode cX1_raise 37 = .ok (.lconst 0, 1) := by decide +kernel
theorem dX1_raise_38 : decode cX1_raise 38 = .ok (.lstore 5, 2) := by decide +kernel
theorem dX1_raise_40 : decode cX1_raise 40 = .ok (.iconst 0, 1) := by decide +kernel
theorem dX1_raise_41 : decode cX1_raise 41 = .ok (.istore 7, 2) := by decide +kernel
theorem dX1_raise_43 : decode cX1_raise 43 = .ok (.iload 7, 2) := by decide +kernel
theorem dX1_raise_45 : decode cX1_raise 45 = .ok (.aload_n 0, 1) := by decide +kernel
theorem dX1_raise_46 : decode cX1_raise 46 = .ok (.getfield 13, 3) := by decide +kernel
theorem dX1_raise_49 : decode cX1_raise 49 = .ok (.if_icmp .ge 44, 3) := by decide +kernel
theorem dX1_raise_52 : decode cX1_raise 52 = .ok (.aload_n 0, 1) := by decide +kernel
theorem dX1_raise_53 : decode cX1_raise 53 = .ok (.getfield 9, 3) := by decide +kernel
theorem dX1_raise_56 : decode cX1_raise 56 = .ok (.iload 7, 2) := by decide +kernel
theorem dX1_raise_58 : decode cX1_raise 58 = .ok (.laload, 1) := by decide +kernel
theorem dX1_raise_59 : decode cX1_raise 59 = .ok (.lload_n 3, 1) := by decide +kernel
theorem dX1_raise_60 : decode cX1_raise 60 = .ok (.lmul, 1) := by decide +kernel
theorem dX1_raise_61 : decode cX1_raise 61 = .ok (.lload 5, 2) := by decide +kernel
theorem dX1_raise_63 : decode cX1_raise 63 = .ok (.ladd, 1) := by decide +kernel
theorem dX1_raise_64 : decode cX1_raise 64 = .ok (.lstore 8, 2) := by decide +kernel
theorem dX1_raise_66 : decode cX1_raise 66 = .ok (.aload_n 0, 1) := by decide +kernel
theorem dX1_raise_67 : decode cX1_raise 67 = .ok (.getfield 9, 3) := by decide +kernel
theorem dX1_raise_70 : decode cX1_raise 70 = .ok (.iload 7, 2) := by decide +kernel
theorem dX1_raise_72 : decode cX1_raise 72 = .ok (.lload 8, 2) := by decide +kernel
theorem dX1_raise_74 : decode cX1_raise 74 = .ok (.ldc2_w 26, 3) := by decide +kernel
theorem dX1_raise_77 : decode cX1_raise 77 = .ok (.lrem, 1) := by decide +kernel
theorem dX1_raise_78 : decode cX1_raise 78 = .ok (.lastore, 1) := by decide +kernel
theorem dX1_raise_79 : decode cX1_raise 79 = .ok (.lload 8, 2) := by decide +kernel
theorem dX1_raise_81 : decode cX1_raise 81 = .ok (.ldc2_w 26, 3) := by decide +kernel
theorem dX1_raise_84 : decode cX1_raise 84 = .ok (.ldiv, 1) := by decide +kernel
theorem dX1_raise_85 : decode cX1_raise 85 = .ok (.lstore 5, 2) := by decide +kernel
theorem dX1_raise_87 : decode cX1_raise 87 = .ok (.iinc 7 1, 3) := by decide +kernel
theorem dX1_raise_90 : decode cX1_raise 90 = .ok (.goto (-47), 3) := by decide +kernel
theorem dX1_raise_93 : decode cX1_raise 93 = .ok (.aload_n 0, 1) := by decide +kernel
theorem dX1_raise_94 : decode cX1_raise 94 = .ok (.aload_n 0, 1) := by decide +kernel
theorem dX1_raise_95 : decode cX1_raise 95 = .ok (.getfield 13, 3) := by decide +kernel
theorem dX1_raise_98 : decode cX1_raise 98 = .ok (.lload 5, 2) := by decide +kernel
theorem dX1_raise_100 : decode cX1_raise 100 = .ok (.invokevirtual 47, 3) := by decide +kernel
theorem dX1_raise_103 : decode cX1_raise 103 = .ok (.aload_n 0, 1) := by decide +kernel
theorem dX1_raise_104 : decode cX1_raise 104 = .ok (.iload_n 2, 1) := by decide +kernel
theorem dX1_raise_105 : decode cX1_raise 105 = .ok (.invokevirtual 54, 3) := by decide +kernel
theorem dX1_raise_108 : decode cX1_raise 108 = .ok (.return_, 1) := by decide +kernel
theorem dX1_shift_0 : decode cX1_shift 0 = .ok (.aload_n 0, 1) := by decide +kernel
theorem dX1_shift_1 : decode cX1_shift 1 = .ok (.getfield 13, 3) := by decide +kernel
theorem dX1_shift_4 : decode cX1_shift 4 = .ok (.iconst 1, 1) := by decide +kernel
theorem dX1_shift_5 : decode cX1_shift 5 = .ok (.isub, 1) := by decide +kernel
theorem dX1_shift_6 : decode cX1_shift 6 = .ok (.istore_n 2, 1) := by decide +kernel
theorem dX1_shift_7 : decode cX1_shift 7 = .ok (.iload_n 2, 1) := by decide +kernel
theorem dX1_shift_8 : decode cX1_shift 8 = .ok (.ifCond .lt 23, 3) := by decide +kernel
theorem dX1_shift_11 : decode cX1_shift 11 = .ok (.aload_n 0, 1) := by decide +kernel
theorem dX1_shift_12 : decode cX1_shift 12 = .ok (.getfield 9, 3) := by decide +kernel
theorem dX1_shift_15 : decode cX1_shift 15 = .ok (.iload_n 2, 1) := by decide +kernel
theorem dX1_shift_16 : decode cX1_shift 16 = .ok (.iload_n 1, 1) := by decide +kernel
theorem dX1_shift_17 : decode cX1_shift 17 = .ok (.iadd, 1) := by decide +kernel
theorem dX1_shift_18 : decode cX1_shift 18 = .ok (.aload_n 0, 1) := by decide +kernel
theorem dX1_shift_19 : decode cX1_shift 19 = .ok (.getfield 9, 3) := by decide +kernel
theorem dX1_shift_22 : decode cX1_shift 22 = .ok (.iload_n 2, 1) := by decide +kernel
theorem dX1_shift_23 : decode cX1_shift 23 = .ok (.laload, 1) := by decide +kernel
theorem dX1_shift_24 : decode cX1_shift 24 = .ok (.lastore, 1) := by decide +kernel
theorem dX1_shift_25 : decode cX1_shift 25 = .ok (.iinc 2 (-1), 3) := by decide +kernel
theorem dX1_shift_28 : decode cX1_shift 28 = .ok (.goto (-21), 3) := by decide +kernel
theorem dX1_shift_31 : decode cX1_shift 31 = .ok (.iconst 0, 1) := by decide +kernel
theorem dX1_shift_32 : decode cX1_shift 32 = .ok (.istore_n 2, 1) := by decide +kernel
theorem dX1_shift_33 : decode cX1_shift 33 = .ok (.iload_n 2, 1) := by decide +kernel
theorem dX1_shift_34 : decode cX1_shift 34 = .ok (.iload_n 1, 1) := by decide +kernel
theorem dX1_shift_35 : decode cX1_shift 35 = .ok (.if_icmp .ge 16, 3) := by decide +kernel
theorem dX1_shift_38 : decode cX1_shift 38 = .ok (.aload_n 0, 1) := by decide +kernel
theorem dX1_shift_39 : decode cX1_shift 39 = .ok (.getfield 9, 3) := by decide +kernel
theorem dX1_shift_42 : decode cX1_shift 42 = .ok (.iload_n 2, 1) := by decide +kernel
theorem dX1_shift_43 : decode cX1_shift 43 = .ok (.lconst 0, 1) := by decide +kernel
theorem dX1_shift_44 : decode cX1_shift 44 = .ok (.lastore, 1) := by decide +kernel
theorem dX1_shift_45 : decode cX1_shift 45 = .ok (.iinc 2 1, 3) := by decide +kernel
theorem dX1_shift_48 : decode cX1_shift 48 = .ok (.goto (-15), 3) := by decide +kernel
theorem dX1_shift_51 : decode cX1_shift 51 = .ok (.aload_n 0, 1) := by decide +kernel
theorem dX1_shift_52 : decode cX1_shift 52 = .ok (.dup, 1) := by decide +kernel
theorem dX1_shift_53 : decode cX1_shift 53 = .ok (.getfield 13, 3) := by decide +kernel
theorem dX1_shift_56 : decode cX1_shift 56 = .ok (.iload_n 1, 1) := by decide +kernel
theorem dX1_shift_57 : decode cX1_shift 57 = .ok (.iadd, 1) := by decide +kernel
theorem dX1_shift_58 : decode cX1_shift 58 = .ok (.putfield 13, 3) := by decide +kernel
theorem dX1_shift_61 : decode cX1_shift 61 = .ok (.return_, 1) := by decide +kernel
set_option maxRecDepth 20000 in
theorem ggX1_takeOut_X1_clear : GoodIn wsX1_takeOut wsX1_clear := goodIn_r _ [8, 1, 2, 26, 27] (by decide +kernel) (by decide +kernel)
set_option maxRecDepth 20000 in
theorem gX1_takeOut_X1_clear : GoodIn wsX1_takeOut (wsV RX1 23 RX1 yX1_clear wsX1_clear) := goodIn_app (goodIn_of _ (by decide +kernel)) ggX1_takeOut_X1_clear
set_option maxRecDepth 20000 in
theorem ggX1_takeOut_X1_guess : GoodIn wsX1_takeOut wsX1_guess := goodIn_r _ [12, 1, 2, 13, 26, 27] (by decide +kernel) (by decide +kernel)
set_option maxRecDepth 20000 in
theorem gX1_takeOut_X1_guess : GoodIn wsX1_takeOut (wsV RX1 58 RX1 yX1_guess wsX1_guess) := goodIn_app (goodIn_of _ (by decide +kernel)) ggX1_takeOut_X1_guess
set_option maxRecDepth 20000 in
theorem ggX1_takeOut_X1_takeAway : GoodIn wsX1_takeOut wsX1_takeAway := goodIn_r _ [17, 1, 2, 13, 18, 19, 20, 21, 26, 27] (by decide +kernel) (by decide +kernel)
set_option maxRecDepth 20000 in
theorem gX1_takeOut_X1_takeAway : GoodIn wsX1_takeOut (wsV RX1 62 RX1 yX1_takeAway wsX1_takeAway) := goodIn_app (goodIn_of _ (by decide +kernel)) ggX1_takeOut_X1_takeAway
set_option maxRecDepth 20000 in
theorem ggX1_takeOut_X1_shrink : GoodIn wsX1_takeOut wsX1_shrink := goodIn_r _ [25, 1, 2, 26, 27] (by decide +kernel) (by decide +kernel)
set_option maxRecDepth 20000 in
theorem gX1_takeOut_X1_shrink : GoodIn wsX1_takeOut (wsV RX1 51 RX1 yX1_shrink wsX1_shrink) := goodIn_app (goodIn_of _ (by decide +kernel)) ggX1_takeOut_X1_shrink
theorem dX1_takeOut_0 : decode cX1_takeOut 0 = .ok (.aload_n 2, 1) := by decide +kernel
theorem dX1_takeOut_1 : decode cX1_takeOut 1 = .ok (.invokevirtual 23, 3) := by decide +kernel
theorem dX1_takeOut_4 : decode cX1_takeOut 4 = .ok (.aload_n 1, 1) := by decide +kernel
theorem dX1_takeOut_5 : decode cX1_takeOut 5 = .ok (.getfield 13, 3) := by decide +kernel
theorem dX1_takeOut_8 : decode cX1_takeOut 8 = .ok (.ifCond .eq 23, 3) := by decide +kernel
theorem dX1_takeOut_11 : decode cX1_takeOut 11 = .ok (.aload_n 0, 1) := by decide +kernel
theorem dX1_takeOut_12 : decode cX1_takeOut 12 = .ok (.getfield 13, 3) := by decide +kernel
theorem dX1_takeOut_15 : decode cX1_takeOut 15 = .ok (.aload_n 1, 1) := by decide +kernel
theorem dX1_takeOut_16 : decode cX1_takeOut 16 = .ok (.getfield 13, 3) := by decide +kernel
theorem dX1_takeOut_19 : decode cX1_takeOut 19 = .ok (.if_icmp .lt 12, 3) := by decide +kernel
theorem dX1_takeOut_22 : decode cX1_takeOut 22 = .ok (.aload_n 0, 1) := by decide +kernel
theorem dX1_takeOut_23 : decode cX1_takeOut 23 = .ok (.getfield 13, 3) := by decide +kernel
theorem dX1_takeOut_26 : decode cX1_takeOut 26 = .ok (.bipush 64, 2) := by decide +kernel
theorem dX1_takeOut_28 : decode cX1_takeOut 28 = .ok (.if_icmp .lt 4, 3) := by decide +kernel
theorem dX1_takeOut_31 : decode cX1_takeOut 31 = .ok (.return_, 1) := by decide +kernel
theorem dX1_takeOut_32 : decode cX1_takeOut 32 = .ok (.aload_n 0, 1) := by decide +kernel
theorem dX1_takeOut_33 : decode cX1_takeOut 33 = .ok (.getfield 13, 3) := by decide +kernel
theorem dX1_takeOut_36 : decode cX1_takeOut 36 = .ok (.aload_n 1, 1) := by decide +kernel
theorem dX1_takeOut_37 : decode cX1_takeOut 37 = .ok (.getfield 13, 3) := by decide +kernel
theorem dX1_takeOut_40 : decode cX1_takeOut 40 = .ok (.isub, 1) := by decide +kernel
theorem dX1_takeOut_41 : decode cX1_takeOut 41 = .ok (.istore_n 3, 1) := by decide +kernel
theorem dX1_takeOut_42 : decode cX1_takeOut 42 = .ok (.iload_n 3, 1) := by decide +kernel
theorem dX1_takeOut_43 : decode cX1_takeOut 43 = .ok (.istore 4, 2) := by decide +kernel
theorem dX1_takeOut_45 : decode cX1_takeOut 45 = .ok (.iload 4, 2) := by decide +kernel
theorem dX1_takeOut_47 : decode cX1_takeOut 47 = .ok (.ifCond .lt 69, 3) := by decide +kernel
theorem dX1_takeOut_50 : decode cX1_takeOut 50 = .ok (.aload_n 0, 1) := by decide +kernel
theorem dX1_takeOut_51 : decode cX1_takeOut 51 = .ok (.aload_n 1, 1) := by decide +kernel
theorem dX1_takeOut_52 : decode cX1_takeOut 52 = .ok (.iload 4, 2) := by decide +kernel
theorem dX1_takeOut_54 : decode cX1_takeOut 54 = .ok (.invokevirtual 58, 3) := by decide +kernel
theorem dX1_takeOut_57 : decode cX1_takeOut 57 = .ok (.lstore 5, 2) := by decide +kernel
theorem dX1_takeOut_59 : decode cX1_takeOut 59 = .ok (.aload_n 0, 1) := by decide +kernel
theorem dX1_takeOut_60 : decode cX1_takeOut 60 = .ok (.aload_n 1, 1) := by decide +kernel
theorem dX1_takeOut_61 : decode cX1_takeOut 61 = .ok (.lload 5, 2) := by decide +kernel
theorem dX1_takeOut_63 : decode cX1_takeOut 63 = .ok (.iload 4, 2) := by decide +kernel
theorem dX1_takeOut_65 : decode cX1_takeOut 65 = .ok (.invokevirtual 62, 3) := by decide +kernel
theorem dX1_takeOut_68 : decode cX1_takeOut 68 = .ok (.aload_n 0, 1) := by decide +kernel
theorem dX1_takeOut_69 : decode cX1_takeOut 69 = .ok (.getfield 9, 3) := by decide +kernel
theorem dX1_takeOut_72 : decode cX1_takeOut 72 = .ok (.iload 4, 2) := by decide +kernel
theorem dX1_takeOut_74 : decode cX1_takeOut 74 = .ok (.aload_n 1, 1) := by decide +kernel
theorem dX1_takeOut_75 : decode cX1_takeOut 75 = .ok (.getfield 13, 3) := by decide +kernel
theorem dX1_takeOut_78 : decode cX1_takeOut 78 = .ok (.iadd, 1) := by decide +kernel
theorem dX1_takeOut_79 : decode cX1_takeOut 79 = .ok (.laload, 1) := by decide +kernel
theorem dX1_takeOut_80 : decode cX1_takeOut 80 = .ok (.lconst 0, 1) := by decide +kernel
theorem dX1_takeOut_81 : decode cX1_takeOut 81 = .ok (.lcmp, 1) := by decide +kernel
theorem dX1_takeOut_82 : decode cX1_takeOut 82 = .ok (.ifCond .ge 19, 3) := by decide +kernel
theorem dX1_takeOut_85 : decode cX1_takeOut 85 = .ok (.aload_n 0, 1) := by decide +kernel
theorem dX1_takeOut_86 : decode cX1_takeOut 86 = .ok (.aload_n 1, 1) := by decide +kernel
theorem dX1_takeOut_87 : decode cX1_takeOut 87 = .ok (.ldc2_w 66, 3) := by decide +kernel
theorem dX1_takeOut_90 : decode cX1_takeOut 90 = .ok (.iload 4, 2) := by decide +kernel
theorem dX1_takeOut_92 : decode cX1_takeOut 92 = .ok (.invokevirtual 62, 3) := by decide +kernel
theorem dX1_takeOut_95 : decode cX1_takeOut 95 = .ok (.lload 5, 2) := by decide +kernel
theorem dX1_takeOut_97 : decode cX1_takeOut 97 = .ok (.lconst 1, 1) := by decide +kernel
theorem dX1_takeOut_98 : decode cX1_takeOut 98 = .ok (.lsub, 1) := by decide +kernel
theorem dX1_takeOut_99 : decode cX1_takeOut 99 = .ok (.lstore 5, 2) := by decide +kernel
theorem dX1_takeOut_101 : decode cX1_takeOut 101 = .ok (.aload_n 2, 1) := by decide +kernel
theorem dX1_takeOut_102 : decode cX1_takeOut 102 = .ok (.getfield 9, 3) := by decide +kernel
theorem dX1_takeOut_105 : decode cX1_takeOut 105 = .ok (.iload 4, 2) := by decide +kernel
theorem dX1_takeOut_107 : decode cX1_takeOut 107 = .ok (.lload 5, 2) := by decide +kernel
theorem dX1_takeOut_109 : decode cX1_takeOut 109 = .ok (.lastore, 1) := by decide +kernel
theorem dX1_takeOut_110 : decode cX1_takeOut 110 = .ok (.iinc 4 (-1), 3) := by decide +kernel
theorem dX1_takeOut_113 : decode cX1_takeOut 113 = .ok (.goto (-68), 3) := by decide +kernel
theorem dX1_takeOut_116 : decode cX1_takeOut 116 = .ok (.aload_n 2, 1) := by decide +kernel
theorem dX1_takeOut_117 : decode cX1_takeOut 117 = .ok (.iload_n 3, 1) := by decide +kernel
theorem dX1_takeOut_118 : decode cX1_takeOut 118 = .ok (.iconst 1, 1) := by decide +kernel
theorem dX1_takeOut_119 : decode cX1_takeOut 119 = .ok (.iadd, 1) := by decide +kernel
theorem dX1_takeOut_120 : decode cX1_takeOut 120 = .ok (.putfield 13, 3) := by decide +kernel
theorem dX1_takeOut_123 : decode cX1_takeOut 123 = .ok (.aload_n 2, 1) := by decide +kernel
theorem dX1_takeOut_124 : decode cX1_takeOut 124 = .ok (.invokevirtual 51, 3) := by decide +kernel
theorem dX1_takeOut_127 : decode cX1_takeOut 127 = .ok (.aload_n 0, 1) := by decide +kernel
theorem dX1_takeOut_128 : decode cX1_takeOut 128 = .ok (.invokevirtual 51, 3) := by decide +kernel
theorem dX1_takeOut_131 : decode cX1_takeOut 131 = .ok (.return_, 1) := by decide +kernel
theorem dX1_guess_0 : decode cX1_guess 0 = .ok (.aload_n 1, 1) := by decide +kernel
theorem dX1_guess_1 : decode cX1_guess 1 = .ok (.getfield 13, 3) := by decide +kernel
theorem dX1_guess_4 : decode cX1_guess 4 = .ok (.iconst 1, 1) := by decide +kernel
theorem dX1_guess_5 : decode cX1_guess 5 = .ok (.isub, 1) := by decide +kernel
theorem dX1_guess_6 : decode cX1_guess 6 = .ok (.istore_n 3, 1) := by decide +kernel
theorem dX1_guess_7 : decode cX1_guess 7 = .ok (.aload_n 0, 1) := by decide +kernel
theorem dX1_guess_8 : decode cX1_guess 8 = .ok (.getfield 9, 3) := by decide +kernel
theorem dX1_guess_11 : decode cX1_guess 11 = .ok (.iload_n 2, 1) := by decide +kernel
theorem dX1_guess_12 : decode cX1_guess 12 = .ok (.iload_n 3, 1) := by decide +kernel
theorem dX1_guess_13 : decode cX1_guess 13 = .ok (.iadd, 1) := by decide +kernel
theorem dX1_guess_14 : decode cX1_guess 14 = .ok (.iconst 1, 1) := by decide +kernel
theorem dX1_guess_15 : decode cX1_guess 15 = .ok (.iadd, 1) := by decide +kernel
theorem dX1_guess_16 : decode cX1_guess 16 = .ok (.laload, 1) := by decide +kernel
theorem dX1_guess_17 : decode cX1_guess 17 = .ok (.ldc2_w 26, 3) := by decide +kernel
theorem dX1_guess_20 : decode cX1_guess 20 = .ok (.lmul, 1) := by decide +kernel
theorem dX1_guess_21 : decode cX1_guess 21 = .ok (.aload_n 0, 1) := by decide +kernel
theorem dX1_guess_22 : decode cX1_guess 22 = .ok (.getfield 9, 3) := by decide +kernel
theorem dX1_guess_25 : decode cX1_guess 25 = .ok (.iload_n 2, 1) := by decide +kernel
theorem dX1_guess_26 : decode cX1_guess 26 = .ok (.iload_n 3, 1) := by decide +kernel
theorem dX1_guess_27 : decode cX1_guess 27 = .ok (.iadd, 1) := by decide +kernel
theorem dX1_guess_28 : decode cX1_guess 28 = .ok (.laload, 1) := by decide +kernel
theorem dX1_guess_29 : decode cX1_guess 29 = .ok (.ladd, 1) := by decide +kernel
theorem dX1_guess_30 : decode cX1_guess 30 = .ok (.ldc2_w 26, 3) := by decide +kernel
theorem dX1_guess_33 : decode cX1_guess 33 = .ok (.lmul, 1) := by decide +kernel
theorem dX1_guess_34 : decode cX1_guess 34 = .ok (.lstore 4, 2) := by decide +kernel
theorem dX1_guess_36 : decode cX1_guess 36 = .ok (.aload_n 1, 1) := by decide +kernel
theorem dX1_guess_37 : decode cX1_guess 37 = .ok (.getfield 9, 3) := by decide +kernel
theorem dX1_guess_40 : decode cX1_guess 40 = .ok (.iload_n 3, 1) := by decide +kernel
theorem dX1_guess_41 : decode cX1_guess 41 = .ok (.laload, 1) := by decide +kernel
theorem dX1_guess_42 : decode cX1_guess 42 = .ok (.ldc2_w 26, 3) := by decide +kernel
theorem dX1_guess_45 : decode cX1_guess 45 = .ok (.lmul, 1) := by decide +kernel
theorem dX1_guess_46 : decode cX1_guess 46 = .ok (.lstore 6, 2) := by decide +kernel
theorem dX1_guess_48 : decode cX1_guess 48 = .ok (.iload_n 3, 1) := by decide +kernel
theorem dX1_guess_49 : decode cX1_guess 49 = .ok (.ifCond .le 31, 3) := by decide +kernel
theorem dX1_guess_52 : decode cX1_guess 52 = .ok (.lload 4, 2) := by decide +kernel
theorem dX1_guess_54 : decode cX1_guess 54 = .ok (.aload_n 0, 1) := by decide +kernel
theorem dX1_guess_55 : decode cX1_guess 55 = .ok (.getfield 9, 3) := by decide +kernel
theorem dX1_guess_58 : decode cX1_guess 58 = .ok (.iload_n 2, 1) := by decide +kernel
theorem dX1_guess_59 : decode cX1_guess 59 = .ok (.iload_n 3, 1) := by decide +kernel
theorem dX1_guess_60 : decode cX1_guess 60 = .ok (.iadd, 1) := by decide +kernel
theorem dX1_guess_61 : decode cX1_guess 61 = .ok (.iconst 1, 1) := by decide +kernel
theorem dX1_guess_62 : decode cX1_guess 62 = .ok (.isub, 1) := by decide +kernel
theorem dX1_guess_63 : decode cX1_guess 63 = .ok (.laload, 1) := by decide +kernel
theorem dX1_guess_64 : decode cX1_guess 64 = .ok (.ladd, 1) := by decide +kernel
theorem dX1_guess_65 : decode cX1_guess 65 = .ok (.lstore 4, 2) := by decide +kernel
theorem dX1_guess_67 : decode cX1_guess 67 = .ok (.lload 6, 2) := by decide +kernel
theorem dX1_guess_69 : decode cX1_guess 69 = .ok (.aload_n 1, 1) := by decide +kernel
theorem dX1_guess_70 : decode cX1_guess 70 = .ok (.getfield 9, 3) := by decide +kernel
theorem dX1_guess_73 : decode cX1_guess 73 = .ok (.iload_n 3, 1) := by decide +kernel
theorem dX1_guess_74 : decode cX1_guess 74 = .ok (.iconst 1, 1) := by decide +kernel
theorem dX1_guess_75 : decode cX1_guess 75 = .ok (.isub, 1) := by decide +kernel
theorem dX1_guess_76 : decode cX1_guess 76 = .ok (.laload, 1) := by decide +kernel
theorem dX1_guess_77 : decode cX1_guess 77 = .ok (.ladd, 1) := by decide +kernel
theorem dX1_guess_78 : decode cX1_guess 78 = .ok (.lstore 6, 2) := by decide +kernel
theorem dX1_guess_80 : decode cX1_guess 80 = .ok (.lload 6, 2) := by decide +kernel
theorem dX1_guess_82 : decode cX1_guess 82 = .ok (.lconst 0, 1) := by decide +kernel
theorem dX1_guess_83 : decode cX1_guess 83 = .ok (.lcmp, 1) := by decide +kernel
theorem dX1_guess_84 : decode cX1_guess 84 = .ok (.ifCond .ne 7, 3) := by decide +kernel
theorem dX1_guess_87 : decode cX1_guess 87 = .ok (.lconst 0, 1) := by decide +kernel
theorem dX1_guess_88 : decode cX1_guess 88 = .ok (.goto 8, 3) := by decide +kernel
theorem dX1_guess_91 : decode cX1_guess 91 = .ok (.lload 4, 2) := by decide +kernel
theorem dX1_guess_93 : decode cX1_guess 93 = .ok (.lload 6, 2) := by decide +kernel
theorem dX1_guess_95 : decode cX1_guess 95 = .ok (.ldiv, 1) := by decide +kernel
theorem dX1_guess_96 : decode cX1_guess 96 = .ok (.lreturn, 1) := by decide +kernel
set_option maxRecDepth 20000 in
theorem ggX1_takeAway_J9_floorDiv_f86c9 : GoodIn wsX1_takeAway wsJ9_floorDiv_f86c9 := goodIn_r _ [7] (by decide +kernel) (by decide +kernel)
set_option maxRecDepth 20000 in
theorem gX1_takeAway_J9_floorDiv_f86c9 : GoodIn wsX1_takeAway (va_wsS RX1 68 yJ9_floorDiv_f86c9 wsJ9_floorDiv_f86c9) := goodIn_app (goodIn_of _ (by decide +kernel)) ggX1_takeAway_J9_floorDiv_f86c9
theorem dX1_takeAway_0 : decode cX1_takeAway 0 = .ok (.lconst 0, 1) := by decide +kernel
theorem dX1_takeAway_1 : decode cX1_takeAway 1 = .ok (.lstore 5, 2) := by decide +kernel
theorem dX1_takeAway_3 : decode cX1_takeAway 3 = .ok (.iconst 0, 1) := by decide +kernel
theorem dX1_takeAway_4 : decode cX1_takeAway 4 = .ok (.istore 7, 2) := by decide +kernel
theorem dX1_takeAway_6 : decode cX1_takeAway 6 = .ok (.iload 7, 2) := by decide +kernel
theorem dX1_takeAway_8 : decode cX1_takeAway 8 = .ok (.aload_n 1, 1) := by decide +kernel
theorem dX1_takeAway_9 : decode cX1_takeAway 9 = .ok (.getfield 13, 3) := by decide +kernel
theorem dX1_takeAway_12 : decode cX1_takeAway 12 = .ok (.if_icmp .ge 63, 3) := by decide +kernel
theorem dX1_takeAway_15 : decode cX1_takeAway 15 = .ok (.aload_n 0, 1) := by decide +kernel
theorem dX1_takeAway_16 : decode cX1_takeAway 16 = .ok (.getfield 9, 3) := by decide +kernel
theorem dX1_takeAway_19 : decode cX1_takeAway 19 = .ok (.iload 4, 2) := by decide +kernel
theorem dX1_takeAway_21 : decode cX1_takeAway 21 = .ok (.iload 7, 2) := by decide +kernel
theorem dX1_takeAway_23 : decode cX1_takeAway 23 = .ok (.iadd, 1) := by decide +kernel
theorem dX1_takeAway_24 : decode cX1_takeAway 24 = .ok (.laload, 1) := by decide +kernel
theorem dX1_takeAway_25 : decode cX1_takeAway 25 = .ok (.lload_n 2, 1) := by decide +kernel
theorem dX1_takeAway_26 : decode cX1_takeAway 26 = .ok (.aload_n 1, 1) := by decide +kernel
theorem dX1_takeAway_27 : decode cX1_takeAway 27 = .ok (.getfield 9, 3) := by decide +kernel
theorem dX1_takeAway_30 : decode cX1_takeAway 30 = .ok (.iload 7, 2) := by decide +kernel
theorem dX1_takeAway_32 : decode cX1_takeAway 32 = .ok (.laload, 1) := by decide +kernel
theorem dX1_takeAway_33 : decode cX1_takeAway 33 = .ok (.lmul, 1) := by decide +kernel
theorem dX1_takeAway_34 : decode cX1_takeAway 34 = .ok (.lsub, 1) := by decide +kernel
theorem dX1_takeAway_35 : decode cX1_takeAway 35 = .ok (.lload 5, 2) := by decide +kernel
theorem dX1_takeAway_37 : decode cX1_takeAway 37 = .ok (.ladd, 1) := by decide +kernel
theorem dX1_takeAway_38 : decode cX1_takeAway 38 = .ok (.lstore 8, 2) := by decide +kernel
theorem dX1_takeAway_40 : decode cX1_takeAway 40 = .ok (.lload 8, 2) := by decide +kernel
theorem dX1_takeAway_42 : decode cX1_takeAway 42 = .ok (.ldc2_w 26, 3) := by decide +kernel
theorem dX1_takeAway_45 : decode cX1_takeAway 45 = .ok (.invokestatic 68, 3) := by decide +kernel
theorem dX1_takeAway_48 : decode cX1_takeAway 48 = .ok (.lstore 5, 2) := by decide +kernel
theorem dX1_takeAway_50 : decode cX1_takeAway 50 = .ok (.aload_n 0, 1) := by decide +kernel
theorem dX1_takeAway_51 : decode cX1_takeAway 51 = .ok (.getfield 9, 3) := by decide +kernel
theorem dX1_takeAway_54 : decode cX1_takeAway 54 = .ok (.iload 4, 2) := by decide +kernel
theorem dX1_takeAway_56 : decode cX1_takeAway 56 = .ok (.iload 7, 2) := by decide +kernel
theorem dX1_takeAway_58 : decode cX1_takeAway 58 = .ok (.iadd, 1) := by decide +kernel
theorem dX1_takeAway_59 : decode cX1_takeAway 59 = .ok (.lload 8, 2) := by decide +kernel
theorem dX1_takeAway_61 : decode cX1_takeAway 61 = .ok (.lload 5, 2) := by decide +kernel
theorem dX1_takeAway_63 : decode cX1_takeAway 63 = .ok (.ldc2_w 26, 3) := by decide +kernel
theorem dX1_takeAway_66 : decode cX1_takeAway 66 = .ok (.lmul, 1) := by decide +kernel
theorem dX1_takeAway_67 : decode cX1_takeAway 67 = .ok (.lsub, 1) := by decide +kernel
theorem dX1_takeAway_68 : decode cX1_takeAway 68 = .ok (.lastore, 1) := by decide +kernel
theorem dX1_takeAway_69 : decode cX1_takeAway 69 = .ok (.iinc 7 1, 3) := by decide +kernel
theorem dX1_takeAway_72 : decode cX1_takeAway 72 = .ok (.goto (-66), 3) := by decide +kernel
theorem dX1_takeAway_75 : decode cX1_takeAway 75 = .ok (.aload_n 0, 1) := by decide +kernel
theorem dX1_takeAway_76 : decode cX1_takeAway 76 = .ok (.getfield 9, 3) := by decide +kernel
theorem dX1_takeAway_79 : decode cX1_takeAway 79 = .ok (.iload 4, 2) := by decide +kernel
theorem dX1_takeAway_81 : decode cX1_takeAway 81 = .ok (.aload_n 1, 1) := by decide +kernel
theorem dX1_takeAway_82 : decode cX1_takeAway 82 = .ok (.getfield 13, 3) := by decide +kernel
theorem dX1_takeAway_85 : decode cX1_takeAway 85 = .ok (.iadd, 1) := by decide +kernel
theorem dX1_takeAway_86 : decode cX1_takeAway 86 = .ok (.dup2, 1) := by decide +kernel
theorem dX1_takeAway_87 : decode cX1_takeAway 87 = .ok (.laload, 1) := by decide +kernel
theorem dX1_takeAway_88 : decode cX1_takeAway 88 = .ok (.lload 5, 2) := by decide +kernel
theorem dX1_takeAway_90 : decode cX1_takeAway 90 = .ok (.ladd, 1) := by decide +kernel
theorem dX1_takeAway_91 : decode cX1_takeAway 91 = .ok (.lastore, 1) := by decide +kernel
theorem dX1_takeAway_92 : decode cX1_takeAway 92 = .ok (.return_, 1) := by decide +kernel
theorem dX1_close_0 : decode cX1_close 0 = .ok (.aload_n 0, 1) := by decide +kernel
theorem dX1_close_1 : decode cX1_close 1 = .ok (.iload_n 1, 1) := by decide +kernel
theorem dX1_close_2 : decode cX1_close 2 = .ok (.putfield 13, 3) := by decide +kernel
theorem dX1_close_5 : decode cX1_close 5 = .ok (.lload_n 2, 1) := by decide +kernel
theorem dX1_close_6 : decode cX1_close 6 = .ok (.lconst 0, 1) := by decide +kernel
theorem dX1_close_7 : decode cX1_close 7 = .ok (.lcmp, 1) := by decide +kernel
theorem dX1_close_8 : decode cX1_close 8 = .ok (.ifCond .eq 23, 3) := by decide +kernel
theorem dX1_close_11 : decode cX1_close 11 = .ok (.iload_n 1, 1) := by decide +kernel
theorem dX1_close_12 : decode cX1_close 12 = .ok (.bipush 64, 2) := by decide +kernel
theorem dX1_close_14 : decode cX1_close 14 = .ok (.if_icmp .ge 17, 3) := by decide +kernel
theorem dX1_close_17 : decode cX1_close 17 = .ok (.aload_n 0, 1) := by decide +kernel
theorem dX1_close_18 : decode cX1_close 18 = .ok (.getfield 9, 3) := by decide +kernel
theorem dX1_close_21 : decode cX1_close 21 = .ok (.iload_n 1, 1) := by decide +kernel
theorem dX1_close_22 : decode cX1_close 22 = .ok (.lload_n 2, 1) := by decide +kernel
theorem dX1_close_23 : decode cX1_close 23 = .ok (.lastore, 1) := by decide +kernel
theorem dX1_close_24 : decode cX1_close 24 = .ok (.aload_n 0, 1) := by decide +kernel
theorem dX1_close_25 : decode cX1_close 25 = .ok (.iload_n 1, 1) := by decide +kernel
theorem dX1_close_26 : decode cX1_close 26 = .ok (.iconst 1, 1) := by decide +kernel
theorem dX1_close_27 : decode cX1_close 27 = .ok (.iadd, 1) := by decide +kernel
theorem dX1_close_28 : decode cX1_close 28 = .ok (.putfield 13, 3) := by decide +kernel
theorem dX1_close_31 : decode cX1_close 31 = .ok (.return_, 1) := by decide +kernel
theorem dX1_shrink_0 : decode cX1_shrink 0 = .ok (.aload_n 0, 1) := by decide +kernel
theorem dX1_shrink_1 : decode cX1_shrink 1 = .ok (.getfield 13, 3) := by decide +kernel
theorem dX1_shrink_4 : decode cX1_shrink 4 = .ok (.ifCond .le 32, 3) := by decide +kernel
theorem dX1_shrink_7 : decode cX1_shrink 7 = .ok (.aload_n 0, 1) := by decide +kernel
theorem dX1_shrink_8 : decode cX1_shrink 8 = .ok (.getfield 9, 3) := by decide +kernel
theorem dX1_shrink_11 : decode cX1_shrink 11 = .ok (.aload_n 0, 1) := by decide +kernel
theorem dX1_shrink_12 : decode cX1_shrink 12 = .ok (.getfield 13, 3) := by decide +kernel
theorem dX1_shrink_15 : decode cX1_shrink 15 = .ok (.iconst 1, 1) := by decide +kernel
theorem dX1_shrink_16 : decode cX1_shrink 16 = .ok (.isub, 1) := by decide +kernel
theorem dX1_shrink_17 : decode cX1_shrink 17 = .ok (.laload, 1) := by decide +kernel
theorem dX1_shrink_18 : decode cX1_shrink 18 = .ok (.lconst 0, 1) := by decide +kernel
theorem dX1_shrink_19 : decode cX1_shrink 19 = .ok (.lcmp, 1) := by decide +kernel
theorem dX1_shrink_20 : decode cX1_shrink 20 = .ok (.ifCond .ne 16, 3) := by decide +kernel
theorem dX1_shrink_23 : decode cX1_shrink 23 = .ok (.aload_n 0, 1) := by decide +kernel
theorem dX1_shrink_24 : decode cX1_shrink 24 = .ok (.dup, 1) := by decide +kernel
theorem dX1_shrink_25 : decode cX1_shrink 25 = .ok (.getfield 13, 3) := by decide +kernel
theorem dX1_shrink_28 : decode cX1_shrink 28 = .ok (.iconst 1, 1) := by decide +kernel
theorem dX1_shrink_29 : decode cX1_shrink 29 = .ok (.isub, 1) := by decide +kernel
theorem dX1_shrink_30 : decode cX1_shrink 30 = .ok (.putfield 13, 3) := by decide +kernel
theorem dX1_shrink_33 : decode cX1_shrink 33 = .ok (.goto (-33), 3) := by decide +kernel
theorem dX1_shrink_36 : decode cX1_shrink 36 = .ok (.return_, 1) := by decide +kernel
theorem dJ9_floorDiv_f86c9_0 : decode cJ9_floorDiv_f86c9 0 = .ok (.lload_n 0, 1) := by decide +kernel
theorem dJ9_floorDiv_f86c9_1 : decode cJ9_floorDiv_f86c9 1 = .ok (.lload_n 2, 1) := by decide +kernel
theorem dJ9_floorDiv_f86c9_2 : decode cJ9_floorDiv_f86c9 2 = .ok (.ldiv, 1) := by decide +kernel
theorem dJ9_floorDiv_f86c9_3 : decode cJ9_floorDiv_f86c9 3 = .ok (.lstore 4, 2) := by decide +kernel
theorem dJ9_floorDiv_f86c9_5 : decode cJ9_floorDiv_f86c9 5 = .ok (.lload_n 0, 1) := by decide +kernel
theorem dJ9_floorDiv_f86c9_6 : decode cJ9_floorDiv_f86c9 6 = .ok (.lload_n 2, 1) := by decide +kernel
theorem dJ9_floorDiv_f86c9_7 : decode cJ9_floorDiv_f86c9 7 = .ok (.lxor, 1) := by decide +kernel
theorem dJ9_floorDiv_f86c9_8 : decode cJ9_floorDiv_f86c9 8 = .ok (.lconst 0, 1) := by decide +kernel
theorem dJ9_floorDiv_f86c9_9 : decode cJ9_floorDiv_f86c9 9 = .ok (.lcmp, 1) := by decide +kernel
theorem dJ9_floorDiv_f86c9_10 : decode cJ9_floorDiv_f86c9 10 = .ok (.ifCond .ge 17, 3) := by decide +kernel
theorem dJ9_floorDiv_f86c9_13 : decode cJ9_floorDiv_f86c9 13 = .ok (.lload 4, 2) := by decide +kernel
theorem dJ9_floorDiv_f86c9_15 : decode cJ9_floorDiv_f86c9 15 = .ok (.lload_n 2, 1) := by decide +kernel
theorem dJ9_floorDiv_f86c9_16 : decode cJ9_floorDiv_f86c9 16 = .ok (.lmul, 1) := by decide +kernel
theorem dJ9_floorDiv_f86c9_17 : decode cJ9_floorDiv_f86c9 17 = .ok (.lload_n 0, 1) := by decide +kernel
theorem dJ9_floorDiv_f86c9_18 : decode cJ9_floorDiv_f86c9 18 = .ok (.lcmp, 1) := by decide +kernel
theorem dJ9_floorDiv_f86c9_19 : decode cJ9_floorDiv_f86c9 19 = .ok (.ifCond .eq 8, 3) := by decide +kernel
theorem dJ9_floorDiv_f86c9_22 : decode cJ9_floorDiv_f86c9 22 = .ok (.lload 4, 2) := by decide +kernel
theorem dJ9_floorDiv_f86c9_24 : decode cJ9_floorDiv_f86c9 24 = .ok (.lconst 1, 1) := by decide +kernel
theorem dJ9_floorDiv_f86c9_25 : decode cJ9_floorDiv_f86c9 25 = .ok (.lsub, 1) := by decide +kernel
theorem dJ9_floorDiv_f86c9_26 : decode cJ9_floorDiv_f86c9 26 = .ok (.lreturn, 1) := by decide +kernel
theorem dJ9_floorDiv_f86c9_27 : decode cJ9_floorDiv_f86c9 27 = .ok (.lload 4, 2) := by decide +kernel
theorem dJ9_floorDiv_f86c9_29 : decode cJ9_floorDiv_f86c9 29 = .ok (.lreturn, 1) := by decide +kernel
theorem dJ9_abs_067f4_0 : decode cJ9_abs_067f4 0 = .ok (.lload_n 0, 1) := by decide +kernel
theorem dJ9_abs_067f4_1 : decode cJ9_abs_067f4 1 = .ok (.lconst 0, 1) := by decide +kernel
theorem dJ9_abs_067f4_2 : decode cJ9_abs_067f4 2 = .ok (.lcmp, 1) := by decide +kernel
theorem dJ9_abs_067f4_3 : decode cJ9_abs_067f4 3 = .ok (.ifCond .ge 8, 3) := by decide +kernel
theorem dJ9_abs_067f4_6 : decode cJ9_abs_067f4 6 = .ok (.lload_n 0, 1) := by decide +kernel
theorem dJ9_abs_067f4_7 : decode cJ9_abs_067f4 7 = .ok (.lneg, 1) := by decide +kernel
theorem dJ9_abs_067f4_8 : decode cJ9_abs_067f4 8 = .ok (.goto 4, 3) := by decide +kernel
theorem dJ9_abs_067f4_11 : decode cJ9_abs_067f4 11 = .ok (.lload_n 0, 1) := by decide +kernel
theorem dJ9_abs_067f4_12 : decode cJ9_abs_067f4 12 = .ok (.lreturn, 1) := by decide +kernel
theorem dJ9_max_7cf53_0 : decode cJ9_max_7cf53 0 = .ok (.iload_n 0, 1) := by decide +kernel
theorem dJ9_max_7cf53_1 : decode cJ9_max_7cf53 1 = .ok (.iload_n 1, 1) := by decide +kernel
theorem dJ9_max_7cf53_2 : decode cJ9_max_7cf53 2 = .ok (.if_icmp .lt 7, 3) := by decide +kernel
theorem dJ9_max_7cf53_5 : decode cJ9_max_7cf53 5 = .ok (.iload_n 0, 1) := by decide +kernel
theorem dJ9_max_7cf53_6 : decode cJ9_max_7cf53 6 = .ok (.goto 4, 3) := by decide +kernel
theorem dJ9_max_7cf53_9 : decode cJ9_max_7cf53 9 = .ok (.iload_n 1, 1) := by decide +kernel
theorem dJ9_max_7cf53_10 : decode cJ9_max_7cf53 10 = .ok (.ireturn, 1) := by decide +kernel
