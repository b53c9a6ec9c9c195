section
-- ===== PART A: goes FIRST, ahead of the names: the tables' words, and 'selects' of the private methods out of them =====
/-- a private method of a class that the tables say can be made, by its rows of tables_1 -/
def lw_okq (q : MethodName × Nat) : Prop := (q.1.cls ≠ "java/lang/invoke/MethodHandle" ∧ q.1.cls ≠ "java/lang/invoke/VarHandle") ∧ Cond.instantiable q.1.cls q.2 ∈ tables_1 ∧ Cond.privateMethod q.1 ∈ tables_1 ∧ Cond.instanceMethod q.1 ∈ tables_1
theorem lw_p0 : lw_okq (⟨"DecimalRegisters", "keep", "(I)I"⟩, 7) := ⟨⟨by decide +kernel, by decide +kernel⟩, List.mem_of_getElem? (i := 9) (by decide +kernel), List.mem_of_getElem? (i := 95) (by decide +kernel), List.mem_of_getElem? (i := 96) (by decide +kernel)⟩
theorem lw_p1 : lw_okq (⟨"DecimalRegisters$Natural", "close", "(IJ)V"⟩, 2) := ⟨⟨by decide +kernel, by decide +kernel⟩, List.mem_of_getElem? (i := 24) (by decide +kernel), List.mem_of_getElem? (i := 143) (by decide +kernel), List.mem_of_getElem? (i := 144) (by decide +kernel)⟩
theorem lw_p2 : lw_okq (⟨"DecimalRegisters$Natural", "shift", "(I)V"⟩, 2) := ⟨⟨by decide +kernel, by decide +kernel⟩, List.mem_of_getElem? (i := 24) (by decide +kernel), List.mem_of_getElem? (i := 147) (by decide +kernel), List.mem_of_getElem? (i := 148) (by decide +kernel)⟩
theorem lw_p3 : lw_okq (⟨"DecimalRegisters", "addUp", "(LDecimalRegisters$Decimal;LDecimalRegisters$Decimal;Z)V"⟩, 7) := ⟨⟨by decide +kernel, by decide +kernel⟩, List.mem_of_getElem? (i := 9) (by decide +kernel), List.mem_of_getElem? (i := 160) (by decide +kernel), List.mem_of_getElem? (i := 161) (by decide +kernel)⟩
theorem lw_p4 : lw_okq (⟨"DecimalRegisters", "align", "(LDecimalRegisters$Decimal;LDecimalRegisters$Decimal;I)V"⟩, 7) := ⟨⟨by decide +kernel, by decide +kernel⟩, List.mem_of_getElem? (i := 9) (by decide +kernel), List.mem_of_getElem? (i := 165) (by decide +kernel), List.mem_of_getElem? (i := 166) (by decide +kernel)⟩
theorem lw_p5 : lw_okq (⟨"DecimalRegisters$Natural", "shrink", "()V"⟩, 2) := ⟨⟨by decide +kernel, by decide +kernel⟩, List.mem_of_getElem? (i := 24) (by decide +kernel), List.mem_of_getElem? (i := 179) (by decide +kernel), List.mem_of_getElem? (i := 180) (by decide +kernel)⟩
theorem lw_p6 : lw_okq (⟨"DecimalRegisters", "multiply", "(LDecimalRegisters$Decimal;LDecimalRegisters$Decimal;)V"⟩, 7) := ⟨⟨by decide +kernel, by decide +kernel⟩, List.mem_of_getElem? (i := 9) (by decide +kernel), List.mem_of_getElem? (i := 183) (by decide +kernel), List.mem_of_getElem? (i := 184) (by decide +kernel)⟩
theorem lw_p7 : lw_okq (⟨"DecimalRegisters", "order", "(LDecimalRegisters$Decimal;LDecimalRegisters$Decimal;)I"⟩, 7) := ⟨⟨by decide +kernel, by decide +kernel⟩, List.mem_of_getElem? (i := 9) (by decide +kernel), List.mem_of_getElem? (i := 191) (by decide +kernel), List.mem_of_getElem? (i := 192) (by decide +kernel)⟩
theorem lw_p8 : lw_okq (⟨"DecimalRegisters", "keepQuotient", "(ILDecimalRegisters$Decimal;LDecimalRegisters$Decimal;II)I"⟩, 7) := ⟨⟨by decide +kernel, by decide +kernel⟩, List.mem_of_getElem? (i := 9) (by decide +kernel), List.mem_of_getElem? (i := 207) (by decide +kernel), List.mem_of_getElem? (i := 208) (by decide +kernel)⟩
theorem lw_p9 : lw_okq (⟨"DecimalRegisters", "split", "(LDecimalRegisters$Decimal;LDecimalRegisters$Decimal;I)V"⟩, 7) := ⟨⟨by decide +kernel, by decide +kernel⟩, List.mem_of_getElem? (i := 9) (by decide +kernel), List.mem_of_getElem? (i := 211) (by decide +kernel), List.mem_of_getElem? (i := 212) (by decide +kernel)⟩
theorem lw_p10 : lw_okq (⟨"DecimalRegisters$Natural", "guess", "(LDecimalRegisters$Natural;I)J"⟩, 2) := ⟨⟨by decide +kernel, by decide +kernel⟩, List.mem_of_getElem? (i := 24) (by decide +kernel), List.mem_of_getElem? (i := 219) (by decide +kernel), List.mem_of_getElem? (i := 220) (by decide +kernel)⟩
theorem lw_p11 : lw_okq (⟨"DecimalRegisters$Natural", "takeAway", "(LDecimalRegisters$Natural;JI)V"⟩, 2) := ⟨⟨by decide +kernel, by decide +kernel⟩, List.mem_of_getElem? (i := 24) (by decide +kernel), List.mem_of_getElem? (i := 223) (by decide +kernel), List.mem_of_getElem? (i := 224) (by decide +kernel)⟩
theorem lw_p12 : lw_okq (⟨"DecimalRegisters", "settle", "(I)Z"⟩, 7) := ⟨⟨by decide +kernel, by decide +kernel⟩, List.mem_of_getElem? (i := 9) (by decide +kernel), List.mem_of_getElem? (i := 231) (by decide +kernel), List.mem_of_getElem? (i := 232) (by decide +kernel)⟩
theorem lw_p13 : lw_okq (⟨"DecimalRegisters", "isAwayFromZero", "(II)Z"⟩, 7) := ⟨⟨by decide +kernel, by decide +kernel⟩, List.mem_of_getElem? (i := 9) (by decide +kernel), List.mem_of_getElem? (i := 235) (by decide +kernel), List.mem_of_getElem? (i := 236) (by decide +kernel)⟩
theorem lw_p14 : lw_okq (⟨"DecimalRegisters", "cutOff", "(I)V"⟩, 7) := ⟨⟨by decide +kernel, by decide +kernel⟩, List.mem_of_getElem? (i := 9) (by decide +kernel), List.mem_of_getElem? (i := 252) (by decide +kernel), List.mem_of_getElem? (i := 253) (by decide +kernel)⟩
theorem lw_p15 : lw_okq (⟨"DecimalRegisters", "cutOffZeros", "()V"⟩, 7) := ⟨⟨by decide +kernel, by decide +kernel⟩, List.mem_of_getElem? (i := 9) (by decide +kernel), List.mem_of_getElem? (i := 260) (by decide +kernel), List.mem_of_getElem? (i := 261) (by decide +kernel)⟩
def lw_privs_1 : List (MethodName × Nat) := [(⟨"DecimalRegisters", "keep", "(I)I"⟩, 7), (⟨"DecimalRegisters$Natural", "close", "(IJ)V"⟩, 2), (⟨"DecimalRegisters$Natural", "shift", "(I)V"⟩, 2), (⟨"DecimalRegisters", "addUp", "(LDecimalRegisters$Decimal;LDecimalRegisters$Decimal;Z)V"⟩, 7), (⟨"DecimalRegisters", "align", "(LDecimalRegisters$Decimal;LDecimalRegisters$Decimal;I)V"⟩, 7), (⟨"DecimalRegisters$Natural", "shrink", "()V"⟩, 2), (⟨"DecimalRegisters", "multiply", "(LDecimalRegisters$Decimal;LDecimalRegisters$Decimal;)V"⟩, 7), (⟨"DecimalRegisters", "order", "(LDecimalRegisters$Decimal;LDecimalRegisters$Decimal;)I"⟩, 7), (⟨"DecimalRegisters", "keepQuotient", "(ILDecimalRegisters$Decimal;LDecimalRegisters$Decimal;II)I"⟩, 7), (⟨"DecimalRegisters", "split", "(LDecimalRegisters$Decimal;LDecimalRegisters$Decimal;I)V"⟩, 7), (⟨"DecimalRegisters$Natural", "guess", "(LDecimalRegisters$Natural;I)J"⟩, 2), (⟨"DecimalRegisters$Natural", "takeAway", "(LDecimalRegisters$Natural;JI)V"⟩, 2), (⟨"DecimalRegisters", "settle", "(I)Z"⟩, 7), (⟨"DecimalRegisters", "isAwayFromZero", "(II)Z"⟩, 7), (⟨"DecimalRegisters", "cutOff", "(I)V"⟩, 7), (⟨"DecimalRegisters", "cutOffZeros", "()V"⟩, 7)]
theorem lw_r1 : ∀ q ∈ lw_privs_1, lw_okq q := List.forall_mem_cons.mpr ⟨lw_p0, List.forall_mem_cons.mpr ⟨lw_p1, List.forall_mem_cons.mpr ⟨lw_p2, List.forall_mem_cons.mpr ⟨lw_p3, List.forall_mem_cons.mpr ⟨lw_p4, List.forall_mem_cons.mpr ⟨lw_p5, List.forall_mem_cons.mpr ⟨lw_p6, List.forall_mem_cons.mpr ⟨lw_p7, List.forall_mem_cons.mpr ⟨lw_p8, List.forall_mem_cons.mpr ⟨lw_p9, List.forall_mem_cons.mpr ⟨lw_p10, List.forall_mem_cons.mpr ⟨lw_p11, List.forall_mem_cons.mpr ⟨lw_p12, List.forall_mem_cons.mpr ⟨lw_p13, List.forall_mem_cons.mpr ⟨lw_p14, List.forall_mem_cons.mpr ⟨lw_p15, fun _ h => absurd h List.not_mem_nil⟩⟩⟩⟩⟩⟩⟩⟩⟩⟩⟩⟩⟩⟩⟩⟩
theorem lw_p16 : lw_okq (⟨"DecimalRegisters", "append", "(C)V"⟩, 7) := ⟨⟨by decide +kernel, by decide +kernel⟩, List.mem_of_getElem? (i := 9) (by decide +kernel), List.mem_of_getElem? (i := 304) (by decide +kernel), List.mem_of_getElem? (i := 305) (by decide +kernel)⟩
theorem lw_p17 : lw_okq (⟨"DecimalRegisters", "appendFigures", "(LDecimalRegisters$Decimal;)V"⟩, 7) := ⟨⟨by decide +kernel, by decide +kernel⟩, List.mem_of_getElem? (i := 9) (by decide +kernel), List.mem_of_getElem? (i := 308) (by decide +kernel), List.mem_of_getElem? (i := 309) (by decide +kernel)⟩
theorem lw_p18 : lw_okq (⟨"DecimalRegisters", "appendZeros", "(I)V"⟩, 7) := ⟨⟨by decide +kernel, by decide +kernel⟩, List.mem_of_getElem? (i := 9) (by decide +kernel), List.mem_of_getElem? (i := 312) (by decide +kernel), List.mem_of_getElem? (i := 313) (by decide +kernel)⟩
theorem lw_p19 : lw_okq (⟨"DecimalRegistersModel", "keep", "(ILDecimalRegistersModel$Row;)I"⟩, 7) := ⟨⟨by decide +kernel, by decide +kernel⟩, List.mem_of_getElem? (i := 320) (by decide +kernel), List.mem_of_getElem? (i := 402) (by decide +kernel), List.mem_of_getElem? (i := 403) (by decide +kernel)⟩
theorem lw_p20 : lw_okq (⟨"DecimalRegistersModel", "order", "(II)I"⟩, 7) := ⟨⟨by decide +kernel, by decide +kernel⟩, List.mem_of_getElem? (i := 320) (by decide +kernel), List.mem_of_getElem? (i := 410) (by decide +kernel), List.mem_of_getElem? (i := 411) (by decide +kernel)⟩
theorem lw_p21 : lw_okq (⟨"DecimalRegistersModel", "align", "(II)V"⟩, 7) := ⟨⟨by decide +kernel, by decide +kernel⟩, List.mem_of_getElem? (i := 320) (by decide +kernel), List.mem_of_getElem? (i := 414) (by decide +kernel), List.mem_of_getElem? (i := 415) (by decide +kernel)⟩
theorem lw_p22 : lw_okq (⟨"DecimalRegistersModel", "sum", "(Z)V"⟩, 7) := ⟨⟨by decide +kernel, by decide +kernel⟩, List.mem_of_getElem? (i := 320) (by decide +kernel), List.mem_of_getElem? (i := 428) (by decide +kernel), List.mem_of_getElem? (i := 429) (by decide +kernel)⟩
theorem lw_p23 : lw_okq (⟨"DecimalRegistersModel", "over", "()V"⟩, 7) := ⟨⟨by decide +kernel, by decide +kernel⟩, List.mem_of_getElem? (i := 320) (by decide +kernel), List.mem_of_getElem? (i := 437) (by decide +kernel), List.mem_of_getElem? (i := 438) (by decide +kernel)⟩
theorem lw_p24 : lw_okq (⟨"DecimalRegistersModel", "cut", "(II)Z"⟩, 7) := ⟨⟨by decide +kernel, by decide +kernel⟩, List.mem_of_getElem? (i := 320) (by decide +kernel), List.mem_of_getElem? (i := 456) (by decide +kernel), List.mem_of_getElem? (i := 457) (by decide +kernel)⟩
theorem lw_p25 : lw_okq (⟨"DecimalRegistersModel", "sign", "(I)V"⟩, 7) := ⟨⟨by decide +kernel, by decide +kernel⟩, List.mem_of_getElem? (i := 320) (by decide +kernel), List.mem_of_getElem? (i := 508) (by decide +kernel), List.mem_of_getElem? (i := 509) (by decide +kernel)⟩
def lw_privs_2 : List (MethodName × Nat) := [(⟨"DecimalRegisters", "append", "(C)V"⟩, 7), (⟨"DecimalRegisters", "appendFigures", "(LDecimalRegisters$Decimal;)V"⟩, 7), (⟨"DecimalRegisters", "appendZeros", "(I)V"⟩, 7), (⟨"DecimalRegistersModel", "keep", "(ILDecimalRegistersModel$Row;)I"⟩, 7), (⟨"DecimalRegistersModel", "order", "(II)I"⟩, 7), (⟨"DecimalRegistersModel", "align", "(II)V"⟩, 7), (⟨"DecimalRegistersModel", "sum", "(Z)V"⟩, 7), (⟨"DecimalRegistersModel", "over", "()V"⟩, 7), (⟨"DecimalRegistersModel", "cut", "(II)Z"⟩, 7), (⟨"DecimalRegistersModel", "sign", "(I)V"⟩, 7)]
theorem lw_r2 : ∀ q ∈ lw_privs_2, lw_okq q := List.forall_mem_cons.mpr ⟨lw_p16, List.forall_mem_cons.mpr ⟨lw_p17, List.forall_mem_cons.mpr ⟨lw_p18, List.forall_mem_cons.mpr ⟨lw_p19, List.forall_mem_cons.mpr ⟨lw_p20, List.forall_mem_cons.mpr ⟨lw_p21, List.forall_mem_cons.mpr ⟨lw_p22, List.forall_mem_cons.mpr ⟨lw_p23, List.forall_mem_cons.mpr ⟨lw_p24, List.forall_mem_cons.mpr ⟨lw_p25, fun _ h => absurd h List.not_mem_nil⟩⟩⟩⟩⟩⟩⟩⟩⟩⟩
def lw_privs : List (MethodName × Nat) := lw_privs_1 ++ (lw_privs_2)
def lw_tbl : List Cond := k2_sels lw_privs ++ tables_1
theorem lw_privs_ok : ∀ q ∈ lw_privs, lw_okq q := by
  show ∀ q ∈ lw_privs_1 ++ (lw_privs_2), lw_okq q
  exact List.forall_mem_append.mpr ⟨lw_r1, lw_r2⟩
end
section
/-! ===== BEGIN words of one list among another's, by their places ===== -/
theorem goodIn_r {big : List Cond} (ws : List Cond) (ps : List Nat) (hp : ws = ps.filterMap (fun i => big[i]?)) (h : ws.all goodWord = true) : GoodIn big ws := by
  intro w hw
  have h1 := List.all_eq_true.mp h w hw
  rw [hp] at hw
  obtain ⟨i, -, hi⟩ := List.mem_filterMap.mp hw
  have hm : w ∈ big := by first | exact List.mem_of_getElem? hi | exact List.getElem?_mem hi
  exact ⟨hm, good_of_word h1⟩
theorem goodIn_app {big a b : List Cond} (ha : GoodIn big a) (hb : GoodIn big b) : GoodIn big (a ++ b) := fun w h => (List.mem_append.mp h).elim (ha w) (hb w)
theorem goodIn_ca {big a b : List Cond} {c : Cond} (ha : GoodIn big (c :: a)) (hb : GoodIn big b) : GoodIn big (c :: (a ++ b)) := fun w h => (List.mem_cons.mp h).elim (fun e => ha w (List.mem_cons.mpr (Or.inl e))) (fun h => (List.mem_append.mp h).elim (fun h => ha w (List.mem_cons.mpr (Or.inr h))) (hb w))
theorem goodIn_sub {big ws : List Cond} (hm : ∀ w ∈ ws, w ∈ big) (h : ws.all goodWord = true) : GoodIn big ws := fun w hw => ⟨hm w hw, good_of_word (List.all_eq_true.mp h w hw)⟩
/-! ===== END ===== -/

/-! ===== BEGIN printed: names, fields, word lists, decode rows ===== -/
def RX0 : String := "DecimalRegisters$Decimal"
def TX0 : u_T := fun k => match k with
  | 0 => ("DecimalRegisters$Decimal", "digits", "LDecimalRegisters$Natural;", true)
  | 1 => ("DecimalRegisters$Decimal", "minus", "Z", false)
  | _ => ("DecimalRegisters$Decimal", "scale", "I", false)
def tyX0 : Nat → FieldType := fun k => match k with
  | 0 => .object "DecimalRegisters$Natural"
  | 1 => .boolean
  | _ => .int
abbrev wsX00 : List Cond := u_ws RX0 TX0 3
theorem nmX0 : ∀ a, a < 3 → ∀ b, b < 3 → a ≠ b → (TX0 a).2.1 ≠ (TX0 b).2.1 := by decide +kernel
theorem tyX0_ok : ∀ k, k < 3 → parseFieldDescriptor (TX0 k).2.2.1 = some (tyX0 k) := by decide +kernel
abbrev cX0_init : ByteArray := prog_2_method_1_code
def yX0_init : MethodName := ⟨RX0, "<init>", "()V"⟩
abbrev cX0_become : ByteArray := prog_2_method_2_code
def yX0_become : MethodName := ⟨RX0, "become", "(LDecimalRegisters$Decimal;)V"⟩
abbrev cX0_take : ByteArray := prog_2_method_3_code
def yX0_take : MethodName := ⟨RX0, "take", "(LDecimalRegisters$Natural;ZI)V"⟩
abbrev cX0_sign : ByteArray := prog_2_method_4_code
def yX0_sign : MethodName := ⟨RX0, "sign", "()I"⟩
def RX1 : String := "DecimalRegisters$Natural"
def TX1 : u_T := fun k => match k with
  | 0 => ("DecimalRegisters$Natural", "limbs", "[J", true)
  | _ => ("DecimalRegisters$Natural", "size", "I", false)
def tyX1 : Nat → FieldType := fun k => match k with
  | 0 => .array .long
  | _ => .int
abbrev wsX10 : List Cond := u_ws RX1 TX1 2
theorem nmX1 : ∀ a, a < 2 → ∀ b, b < 2 → a ≠ b → (TX1 a).2.1 ≠ (TX1 b).2.1 := by decide +kernel
theorem tyX1_ok : ∀ k, k < 2 → parseFieldDescriptor (TX1 k).2.2.1 = some (tyX1 k) := by decide +kernel
abbrev cX1_init : ByteArray := prog_3_method_1_code
def yX1_init : MethodName := ⟨RX1, "<init>", "()V"⟩
abbrev cX1_isZero : ByteArray := prog_3_method_2_code
def yX1_isZero : MethodName := ⟨RX1, "isZero", "()Z"⟩
abbrev cX1_become : ByteArray := prog_3_method_3_code
def yX1_become : MethodName := ⟨RX1, "become", "(LDecimalRegisters$Natural;)V"⟩
abbrev cX1_becomeSizeOf : ByteArray := prog_3_method_4_code
def yX1_becomeSizeOf : MethodName := ⟨RX1, "becomeSizeOf", "(J)V"⟩
abbrev cX1_clear : ByteArray := prog_3_method_5_code
def yX1_clear : MethodName := ⟨RX1, "clear", "()V"⟩
abbrev cX1_precision : ByteArray := prog_3_method_6_code
def yX1_precision : MethodName := ⟨RX1, "precision", "()I"⟩
abbrev cX1_figure : ByteArray := prog_3_method_7_code
def yX1_figure : MethodName := ⟨RX1, "figure", "(I)I"⟩
abbrev cX1_zerosAtEnd : ByteArray := prog_3_method_8_code
def yX1_zerosAtEnd : MethodName := ⟨RX1, "zerosAtEnd", "()I"⟩
abbrev cX1_lowestBits : ByteArray := prog_3_method_9_code
def yX1_lowestBits : MethodName := ⟨RX1, "lowestBits", "()J"⟩
abbrev cX1_order : ByteArray := prog_3_method_10_code
def yX1_order : MethodName := ⟨RX1, "order", "(LDecimalRegisters$Natural;)I"⟩
abbrev cX1_add : ByteArray := prog_3_method_11_code
def yX1_add : MethodName := ⟨RX1, "add", "(LDecimalRegisters$Natural;)V"⟩
abbrev cX1_subtract : ByteArray := prog_3_method_12_code
def yX1_subtract : MethodName := ⟨RX1, "subtract", "(LDecimalRegisters$Natural;)V"⟩
abbrev cX1_becomeProduct : ByteArray := prog_3_method_13_code
def yX1_becomeProduct : MethodName := ⟨RX1, "becomeProduct", "(LDecimalRegisters$Natural;LDecimalRegisters$Natural;)V"⟩
abbrev cX1_raise : ByteArray := prog_3_method_14_code
def yX1_raise : MethodName := ⟨RX1, "raise", "(I)V"⟩
abbrev cX1_shift : ByteArray := prog_3_method_15_code
def yX1_shift : MethodName := ⟨RX1, "shift", "(I)V"⟩
abbrev cX1_takeOut : ByteArray := prog_3_method_16_code
def yX1_takeOut : MethodName := ⟨RX1, "takeOut", "(LDecimalRegisters$Natural;LDecimalRegisters$Natural;)V"⟩
abbrev cX1_guess : ByteArray := prog_3_method_17_code
def yX1_guess : MethodName := ⟨RX1, "guess", "(LDecimalRegisters$Natural;I)J"⟩
abbrev cX1_takeAway : ByteArray := prog_3_method_18_code
def yX1_takeAway : MethodName := ⟨RX1, "takeAway", "(LDecimalRegisters$Natural;JI)V"⟩
abbrev cX1_close : ByteArray := prog_3_method_19_code
def yX1_close : MethodName := ⟨RX1, "close", "(IJ)V"⟩
abbrev cX1_shrink : ByteArray := prog_3_method_20_code
def yX1_shrink : MethodName := ⟨RX1, "shrink", "()V"⟩
def RX2 : String := "DecimalRegisters"
def TX2 : u_T := fun k => match k with
  | 0 => ("DecimalRegisters", "registers", "[LDecimalRegisters$Decimal;", true)
  | 1 => ("DecimalRegisters", "result", "LDecimalRegisters$Decimal;", true)
  | 2 => ("DecimalRegisters", "one", "LDecimalRegisters$Decimal;", true)
  | 3 => ("DecimalRegisters", "top", "LDecimalRegisters$Natural;", true)
  | 4 => ("DecimalRegisters", "bottom", "LDecimalRegisters$Natural;", true)
  | 5 => ("DecimalRegisters", "text", "[C", true)
  | _ => ("DecimalRegisters", "textLength", "I", false)
def tyX2 : Nat → FieldType := fun k => match k with
  | 0 => .array (.object "DecimalRegisters$Decimal")
  | 1 => .object "DecimalRegisters$Decimal"
  | 2 => .object "DecimalRegisters$Decimal"
  | 3 => .object "DecimalRegisters$Natural"
  | 4 => .object "DecimalRegisters$Natural"
  | 5 => .array .char
  | _ => .int
abbrev wsX20 : List Cond := u_ws RX2 TX2 7
theorem nmX2 : ∀ a, a < 7 → ∀ b, b < 7 → a ≠ b → (TX2 a).2.1 ≠ (TX2 b).2.1 := by decide +kernel
theorem tyX2_ok : ∀ k, k < 7 → parseFieldDescriptor (TX2 k).2.2.1 = some (tyX2 k) := by decide +kernel
abbrev cX2_init : ByteArray := prog_1_method_1_code
def yX2_init : MethodName := ⟨RX2, "<init>", "()V"⟩
abbrev cX2_load : ByteArray := prog_1_method_2_code
def yX2_load : MethodName := ⟨RX2, "load", "(IJI)I"⟩
abbrev cX2_push : ByteArray := prog_1_method_3_code
def yX2_push : MethodName := ⟨RX2, "push", "(IJ)I"⟩
abbrev cX2_reckon : ByteArray := prog_1_method_4_code
def yX2_reckon : MethodName := ⟨RX2, "reckon", "(IIII)I"⟩
abbrev cX2_divide : ByteArray := prog_1_method_5_code
def yX2_divide : MethodName := ⟨RX2, "divide", "(IIIII)I"⟩
abbrev cX2_part : ByteArray := prog_1_method_6_code
def yX2_part : MethodName := ⟨RX2, "part", "(IIII)I"⟩
abbrev cX2_scale : ByteArray := prog_1_method_7_code
def yX2_scale : MethodName := ⟨RX2, "scale", "(IIII)I"⟩
abbrev cX2_round : ByteArray := prog_1_method_8_code
def yX2_round : MethodName := ⟨RX2, "round", "(IIII)I"⟩
abbrev cX2_turn : ByteArray := prog_1_method_9_code
def yX2_turn : MethodName := ⟨RX2, "turn", "(III)I"⟩
abbrev cX2_move : ByteArray := prog_1_method_10_code
def yX2_move : MethodName := ⟨RX2, "move", "(IIII)I"⟩
abbrev cX2_power : ByteArray := prog_1_method_11_code
def yX2_power : MethodName := ⟨RX2, "power", "(III)I"⟩
abbrev cX2_compare : ByteArray := prog_1_method_12_code
def yX2_compare : MethodName := ⟨RX2, "compare", "(II)I"⟩
abbrev cX2_same : ByteArray := prog_1_method_13_code
def yX2_same : MethodName := ⟨RX2, "same", "(II)Z"⟩
abbrev cX2_look : ByteArray := prog_1_method_14_code
def yX2_look : MethodName := ⟨RX2, "look", "(II)I"⟩
abbrev cX2_digit : ByteArray := prog_1_method_15_code
def yX2_digit : MethodName := ⟨RX2, "digit", "(II)I"⟩
abbrev cX2_whole : ByteArray := prog_1_method_16_code
def yX2_whole : MethodName := ⟨RX2, "whole", "(I)J"⟩
abbrev cX2_write : ByteArray := prog_1_method_17_code
def yX2_write : MethodName := ⟨RX2, "write", "(I)I"⟩
abbrev cX2_octet : ByteArray := prog_1_method_18_code
def yX2_octet : MethodName := ⟨RX2, "octet", "(I)I"⟩
abbrev cX2_isRegister : ByteArray := prog_1_method_19_code
def yX2_isRegister : MethodName := ⟨RX2, "isRegister", "(I)Z"⟩
abbrev cX2_isWay : ByteArray := prog_1_method_20_code
def yX2_isWay : MethodName := ⟨RX2, "isWay", "(I)Z"⟩
abbrev cX2_isScale : ByteArray := prog_1_method_21_code
def yX2_isScale : MethodName := ⟨RX2, "isScale", "(I)Z"⟩
abbrev cX2_keep : ByteArray := prog_1_method_22_code
def yX2_keep : MethodName := ⟨RX2, "keep", "(I)I"⟩
abbrev cX2_keepQuotient : ByteArray := prog_1_method_23_code
def yX2_keepQuotient : MethodName := ⟨RX2, "keepQuotient", "(ILDecimalRegisters$Decimal;LDecimalRegisters$Decimal;II)I"⟩
abbrev cX2_align : ByteArray := prog_1_method_24_code
def yX2_align : MethodName := ⟨RX2, "align", "(LDecimalRegisters$Decimal;LDecimalRegisters$Decimal;I)V"⟩
abbrev cX2_split : ByteArray := prog_1_method_25_code
def yX2_split : MethodName := ⟨RX2, "split", "(LDecimalRegisters$Decimal;LDecimalRegisters$Decimal;I)V"⟩
abbrev cX2_settle : ByteArray := prog_1_method_26_code
def yX2_settle : MethodName := ⟨RX2, "settle", "(I)Z"⟩
abbrev cX2_isAwayFromZero : ByteArray := prog_1_method_27_code
def yX2_isAwayFromZero : MethodName := ⟨RX2, "isAwayFromZero", "(II)Z"⟩
abbrev cX2_cutOff : ByteArray := prog_1_method_28_code
def yX2_cutOff : MethodName := ⟨RX2, "cutOff", "(I)V"⟩
abbrev cX2_cutOffZeros : ByteArray := prog_1_method_29_code
def yX2_cutOffZeros : MethodName := ⟨RX2, "cutOffZeros", "()V"⟩
abbrev cX2_addUp : ByteArray := prog_1_method_30_code
def yX2_addUp : MethodName := ⟨RX2, "addUp", "(LDecimalRegisters$Decimal;LDecimalRegisters$Decimal;Z)V"⟩
abbrev cX2_multiply : ByteArray := prog_1_method_31_code
def yX2_multiply : MethodName := ⟨RX2, "multiply", "(LDecimalRegisters$Decimal;LDecimalRegisters$Decimal;)V"⟩
abbrev cX2_order : ByteArray := prog_1_method_32_code
def yX2_order : MethodName := ⟨RX2, "order", "(LDecimalRegisters$Decimal;LDecimalRegisters$Decimal;)I"⟩
abbrev cX2_appendFigures : ByteArray := prog_1_method_33_code
def yX2_appendFigures : MethodName := ⟨RX2, "appendFigures", "(LDecimalRegisters$Decimal;)V"⟩
abbrev cX2_appendZeros : ByteArray := prog_1_method_34_code
def yX2_appendZeros : MethodName := ⟨RX2, "appendZeros", "(I)V"⟩
abbrev cX2_append : ByteArray := prog_1_method_35_code
def yX2_append : MethodName := ⟨RX2, "append", "(C)V"⟩
def RX3 : String := "DecimalRegistersModel$Row"
def TX3 : u_T := fun k => match k with
  | 0 => ("DecimalRegistersModel$Row", "d", "[I", true)
  | 1 => ("DecimalRegistersModel$Row", "n", "I", false)
  | 2 => ("DecimalRegistersModel$Row", "minus", "Z", false)
  | _ => ("DecimalRegistersModel$Row", "scale", "I", false)
def tyX3 : Nat → FieldType := fun k => match k with
  | 0 => .array .int
  | 1 => .int
  | 2 => .boolean
  | _ => .int
abbrev wsX30 : List Cond := u_ws RX3 TX3 4
theorem nmX3 : ∀ a, a < 4 → ∀ b, b < 4 → a ≠ b → (TX3 a).2.1 ≠ (TX3 b).2.1 := by decide +kernel
theorem tyX3_ok : ∀ k, k < 4 → parseFieldDescriptor (TX3 k).2.2.1 = some (tyX3 k) := by decide +kernel
abbrev cX3_init : ByteArray := prog_6_method_1_code
def yX3_init : MethodName := ⟨RX3, "<init>", "()V"⟩
abbrev cX3_isZero : ByteArray := prog_6_method_2_code
def yX3_isZero : MethodName := ⟨RX3, "isZero", "()Z"⟩
abbrev cX3_zero : ByteArray := prog_6_method_3_code
def yX3_zero : MethodName := ⟨RX3, "zero", "()V"⟩
abbrev cX3_trim : ByteArray := prog_6_method_4_code
def yX3_trim : MethodName := ⟨RX3, "trim", "()V"⟩
abbrev cX3_take : ByteArray := prog_6_method_5_code
def yX3_take : MethodName := ⟨RX3, "take", "(LDecimalRegistersModel$Row;)V"⟩
abbrev cX3_up : ByteArray := prog_6_method_6_code
def yX3_up : MethodName := ⟨RX3, "up", "(I)V"⟩
abbrev cX3_ends : ByteArray := prog_6_method_7_code
def yX3_ends : MethodName := ⟨RX3, "ends", "(I)Z"⟩
abbrev cX3_more : ByteArray := prog_6_method_8_code
def yX3_more : MethodName := ⟨RX3, "more", "()V"⟩
def RX4 : String := "DecimalRegistersModel"
def TX4 : u_T := fun k => match k with
  | 0 => ("DecimalRegistersModel", "registers", "[LDecimalRegistersModel$Row;", true)
  | 1 => ("DecimalRegistersModel", "a", "LDecimalRegistersModel$Row;", true)
  | 2 => ("DecimalRegistersModel", "b", "LDecimalRegistersModel$Row;", true)
  | 3 => ("DecimalRegistersModel", "c", "LDecimalRegistersModel$Row;", true)
  | 4 => ("DecimalRegistersModel", "e", "LDecimalRegistersModel$Row;", true)
  | 5 => ("DecimalRegistersModel", "text", "[I", true)
  | _ => ("DecimalRegistersModel", "length", "I", false)
def tyX4 : Nat → FieldType := fun k => match k with
  | 0 => .array (.object "DecimalRegistersModel$Row")
  | 1 => .object "DecimalRegistersModel$Row"
  | 2 => .object "DecimalRegistersModel$Row"
  | 3 => .object "DecimalRegistersModel$Row"
  | 4 => .object "DecimalRegistersModel$Row"
  | 5 => .array .int
  | _ => .int
abbrev wsX40 : List Cond := u_ws RX4 TX4 7
theorem nmX4 : ∀ a, a < 7 → ∀ b, b < 7 → a ≠ b → (TX4 a).2.1 ≠ (TX4 b).2.1 := by decide +kernel
theorem tyX4_ok : ∀ k, k < 7 → parseFieldDescriptor (TX4 k).2.2.1 = some (tyX4 k) := by decide +kernel
abbrev cX4_init : ByteArray := prog_5_method_1_code
def yX4_init : MethodName := ⟨RX4, "<init>", "()V"⟩
abbrev cX4_is : ByteArray := prog_5_method_2_code
def yX4_is : MethodName := ⟨RX4, "is", "(I)Z"⟩
abbrev cX4_isScale : ByteArray := prog_5_method_3_code
def yX4_isScale : MethodName := ⟨RX4, "isScale", "(J)Z"⟩
abbrev cX4_keep : ByteArray := prog_5_method_4_code
def yX4_keep : MethodName := ⟨RX4, "keep", "(ILDecimalRegistersModel$Row;)I"⟩
abbrev cX4_load : ByteArray := prog_5_method_5_code
def yX4_load : MethodName := ⟨RX4, "load", "(IJI)I"⟩
abbrev cX4_push : ByteArray := prog_5_method_6_code
def yX4_push : MethodName := ⟨RX4, "push", "(IJ)I"⟩
abbrev cX4_sizes : ByteArray := prog_5_method_7_code
def yX4_sizes : MethodName := ⟨RX4, "sizes", "(LDecimalRegistersModel$Row;LDecimalRegistersModel$Row;)I"⟩
abbrev cX4_align : ByteArray := prog_5_method_8_code
def yX4_align : MethodName := ⟨RX4, "align", "(II)V"⟩
abbrev cX4_order : ByteArray := prog_5_method_9_code
def yX4_order : MethodName := ⟨RX4, "order", "(II)I"⟩
abbrev cX4_sum : ByteArray := prog_5_method_10_code
def yX4_sum : MethodName := ⟨RX4, "sum", "(Z)V"⟩
abbrev cX4_product : ByteArray := prog_5_method_11_code
def yX4_product : MethodName := ⟨RX4, "product", "(LDecimalRegistersModel$Row;LDecimalRegistersModel$Row;LDecimalRegistersModel$Row;)V"⟩
abbrev cX4_reckon : ByteArray := prog_5_method_12_code
def yX4_reckon : MethodName := ⟨RX4, "reckon", "(IIII)I"⟩
abbrev cX4_over : ByteArray := prog_5_method_13_code
def yX4_over : MethodName := ⟨RX4, "over", "()V"⟩
abbrev cX4_turns : ByteArray := prog_5_method_14_code
def yX4_turns : MethodName := ⟨RX4, "turns", "(IZIZ)Z"⟩
abbrev cX4_divide : ByteArray := prog_5_method_15_code
def yX4_divide : MethodName := ⟨RX4, "divide", "(IIIII)I"⟩
abbrev cX4_part : ByteArray := prog_5_method_16_code
def yX4_part : MethodName := ⟨RX4, "part", "(IIII)I"⟩
abbrev cX4_cut : ByteArray := prog_5_method_17_code
def yX4_cut : MethodName := ⟨RX4, "cut", "(II)Z"⟩
abbrev cX4_scale : ByteArray := prog_5_method_18_code
def yX4_scale : MethodName := ⟨RX4, "scale", "(IIII)I"⟩
abbrev cX4_round : ByteArray := prog_5_method_19_code
def yX4_round : MethodName := ⟨RX4, "round", "(IIII)I"⟩
abbrev cX4_turn : ByteArray := prog_5_method_20_code
def yX4_turn : MethodName := ⟨RX4, "turn", "(III)I"⟩
abbrev cX4_move : ByteArray := prog_5_method_21_code
def yX4_move : MethodName := ⟨RX4, "move", "(IIII)I"⟩
abbrev cX4_power : ByteArray := prog_5_method_22_code
def yX4_power : MethodName := ⟨RX4, "power", "(III)I"⟩
abbrev cX4_compare : ByteArray := prog_5_method_23_code
def yX4_compare : MethodName := ⟨RX4, "compare", "(II)I"⟩
abbrev cX4_same : ByteArray := prog_5_method_24_code
def yX4_same : MethodName := ⟨RX4, "same", "(II)Z"⟩
abbrev cX4_look : ByteArray := prog_5_method_25_code
def yX4_look : MethodName := ⟨RX4, "look", "(II)I"⟩
abbrev cX4_digit : ByteArray := prog_5_method_26_code
def yX4_digit : MethodName := ⟨RX4, "digit", "(II)I"⟩
abbrev cX4_whole : ByteArray := prog_5_method_27_code
def yX4_whole : MethodName := ⟨RX4, "whole", "(I)J"⟩
abbrev cX4_sign : ByteArray := prog_5_method_28_code
def yX4_sign : MethodName := ⟨RX4, "sign", "(I)V"⟩
abbrev cX4_write : ByteArray := prog_5_method_29_code
def yX4_write : MethodName := ⟨RX4, "write", "(I)I"⟩
abbrev cX4_octet : ByteArray := prog_5_method_30_code
def yX4_octet : MethodName := ⟨RX4, "octet", "(I)I"⟩
def RJ9 : String := "java/lang/Math"
def TJ9 : u_T := fun k => match k with
  | _ => ("", "", "", false)
def tyJ9 : Nat → FieldType := fun k => match k with
  | _ => .int
abbrev wsJ90 : List Cond := u_ws RJ9 TJ9 0
theorem nmJ9 : ∀ a, a < 0 → ∀ b, b < 0 → a ≠ b → (TJ9 a).2.1 ≠ (TJ9 b).2.1 := by decide +kernel
theorem tyJ9_ok : ∀ k, k < 0 → parseFieldDescriptor (TJ9 k).2.2.1 = some (tyJ9 k) := by decide +kernel
abbrev cJ9_floorDiv_f86c9 : ByteArray := prog_7_method_49_code
def yJ9_floorDiv_f86c9 : MethodName := ⟨RJ9, "floorDiv", "(JJ)J"⟩
abbrev cJ9_abs_067f4 : ByteArray := prog_7_method_61_code
def yJ9_abs_067f4 : MethodName := ⟨RJ9, "abs", "(J)J"⟩
abbrev cJ9_max_7cf53 : ByteArray := prog_7_method_65_code
def yJ9_max_7cf53 : MethodName := ⟨RJ9, "max", "(II)I"⟩
def RJ10 : String := "java/lang/System"
def TJ10 : u_T := fun k => match k with
  | _ => ("", "", "", false)
def tyJ10 : Nat → FieldType := fun k => match k with
  | _ => .int
abbrev wsJ100 : List Cond := u_ws RJ10 TJ10 0
theorem nmJ10 : ∀ a, a < 0 → ∀ b, b < 0 → a ≠ b → (TJ10 a).2.1 ≠ (TJ10 b).2.1 := by decide +kernel
theorem tyJ10_ok : ∀ k, k < 0 → parseFieldDescriptor (TJ10 k).2.2.1 = some (tyJ10 k) := by decide +kernel
def RL : String := "DecimalRegistersLaw"
abbrev cL_law : ByteArray := code
def yL_law : MethodName := ⟨RL, "law", "([I)Z"⟩
def wsX1_init : List Cond := .code yX1_init cX1_init 1 none :: ([.methodLink RX1 1 objectInit, .instanceMethod objectInit, .code objectInit ⟨#[0xb1]⟩ 1 none, .arrayClass .long, .fieldLink RX1 9 "DecimalRegisters$Natural" "limbs" "[J"] ++ wsX10)
def wsX0_init : List Cond := .code yX0_init cX0_init 1 none :: ([.methodLink RX0 1 objectInit, .instanceMethod objectInit, .code objectInit ⟨#[0xb1]⟩ 1 none, .classLink RX0 7 RX1, .instantiable RX1 2, .initialized RX1, .fieldLink RX0 10 "DecimalRegisters$Decimal" "digits" "LDecimalRegisters$Natural;", .instanceMethod yX1_init, .code yX1_init cX1_init 1 none, .methodLink RX1 1 objectInit, .arrayClass .long, .fieldLink RX1 9 "DecimalRegisters$Natural" "limbs" "[J"] ++ wsX10 ++ wsX00)
def wsX1_become : List Cond := .code yX1_become cX1_become 2 none :: ([.fieldLink RX1 9 "DecimalRegisters$Natural" "limbs" "[J", .methodLink RX1 17 arraycopyName, .native arraycopyName, .static arraycopyName, .initialized "java/lang/System", .fieldLink RX1 13 "DecimalRegisters$Natural" "size" "I"] ++ wsX10)
def wsX1_isZero : List Cond := .code yX1_isZero cX1_isZero 1 (some .boolean) :: ([.fieldLink RX1 13 "DecimalRegisters$Natural" "size" "I"] ++ wsX10)
def wsX0_take : List Cond := .code yX0_take cX0_take 4 none :: ([.fieldLink RX0 10 "DecimalRegisters$Decimal" "digits" "LDecimalRegisters$Natural;", .fieldLink RX0 16 "DecimalRegisters$Decimal" "minus" "Z", .fieldLink RX0 20 "DecimalRegisters$Decimal" "scale" "I", .methodLink RX0 28 yX1_become, .instanceMethod yX1_become, .selects RX1 yX1_become yX1_become, .initialized RX1, .code yX1_become cX1_become 2 none, .fieldLink RX1 9 "DecimalRegisters$Natural" "limbs" "[J", .methodLink RX1 17 arraycopyName, .native arraycopyName, .static arraycopyName, .initialized "java/lang/System", .fieldLink RX1 13 "DecimalRegisters$Natural" "size" "I", .methodLink RX0 32 yX1_isZero, .instanceMethod yX1_isZero, .selects RX1 yX1_isZero yX1_isZero, .code yX1_isZero cX1_isZero 1 (some .boolean)] ++ wsX00 ++ wsX10)
def wsX0_become : List Cond := .code yX0_become cX0_become 2 none :: ([.fieldLink RX0 10 "DecimalRegisters$Decimal" "digits" "LDecimalRegisters$Natural;", .fieldLink RX0 16 "DecimalRegisters$Decimal" "minus" "Z", .fieldLink RX0 20 "DecimalRegisters$Decimal" "scale" "I", .methodLink RX0 24 yX0_take, .instanceMethod yX0_take, .selects RX0 yX0_take yX0_take, .initialized RX0, .code yX0_take cX0_take 4 none, .methodLink RX0 28 yX1_become, .instanceMethod yX1_become, .selects RX1 yX1_become yX1_become, .initialized RX1, .code yX1_become cX1_become 2 none, .fieldLink RX1 9 "DecimalRegisters$Natural" "limbs" "[J", .methodLink RX1 17 arraycopyName, .native arraycopyName, .static arraycopyName, .initialized "java/lang/System", .fieldLink RX1 13 "DecimalRegisters$Natural" "size" "I", .methodLink RX0 32 yX1_isZero, .instanceMethod yX1_isZero, .selects RX1 yX1_isZero yX1_isZero, .code yX1_isZero cX1_isZero 1 (some .boolean)] ++ wsX00 ++ wsX10)
def wsX0_sign : List Cond := .code yX0_sign cX0_sign 1 (some .int) :: ([.fieldLink RX0 10 "DecimalRegisters$Decimal" "digits" "LDecimalRegisters$Natural;", .fieldLink RX0 16 "DecimalRegisters$Decimal" "minus" "Z", .methodLink RX0 32 yX1_isZero, .instanceMethod yX1_isZero, .selects RX1 yX1_isZero yX1_isZero, .initialized RX1, .code yX1_isZero cX1_isZero 1 (some .boolean), .fieldLink RX1 13 "DecimalRegisters$Natural" "size" "I"] ++ wsX00 ++ wsX10)
def wsX1_clear : List Cond := .code yX1_clear cX1_clear 2 none :: ([.fieldLink RX1 13 "DecimalRegisters$Natural" "size" "I", .fieldLink RX1 9 "DecimalRegisters$Natural" "limbs" "[J"] ++ wsX10)
def wsX1_becomeSizeOf : List Cond := .code yX1_becomeSizeOf cX1_becomeSizeOf 6 none :: ([.fieldLink RX1 9 "DecimalRegisters$Natural" "limbs" "[J", .constantLong RX1 26 (1000000), .methodLink RX1 28 Lib.MathLoose.abs_long.x, .static Lib.MathLoose.abs_long.x, .initialized "java/lang/Math", .code Lib.MathLoose.abs_long.x Lib.MathLoose.abs_long.code 2 (some .long), .fieldLink RX1 13 "DecimalRegisters$Natural" "size" "I", .methodLink RX1 23 yX1_clear, .instanceMethod yX1_clear, .selects RX1 yX1_clear yX1_clear, .initialized RX1, .code yX1_clear cX1_clear 2 none] ++ wsX10)
def wsX1_figure : List Cond := .code yX1_figure cX1_figure 3 (some .int) :: ([.fieldLink RX1 13 "DecimalRegisters$Natural" "size" "I", .fieldLink RX1 9 "DecimalRegisters$Natural" "limbs" "[J", .fieldLink RX1 42 "DecimalRegisters$Natural" "TENS" "[J", .constantLong RX1 45 (10)] ++ wsX10)
def wsX1_precision : List Cond := .code yX1_precision cX1_precision 2 (some .int) :: ([.fieldLink RX1 13 "DecimalRegisters$Natural" "size" "I", .methodLink RX1 38 Lib.Math.max.name, .static Lib.Math.max.name, .initialized "java/lang/Math", .code Lib.Math.max.name Lib.Math.max.code 2 (some .int), .methodLink RX1 34 yX1_figure, .instanceMethod yX1_figure, .selects RX1 yX1_figure yX1_figure, .initialized RX1, .code yX1_figure cX1_figure 3 (some .int), .fieldLink RX1 9 "DecimalRegisters$Natural" "limbs" "[J", .fieldLink RX1 42 "DecimalRegisters$Natural" "TENS" "[J", .constantLong RX1 45 (10)] ++ wsX10)
def wsX1_zerosAtEnd : List Cond := .code yX1_zerosAtEnd cX1_zerosAtEnd 3 (some .int) :: ([.fieldLink RX1 13 "DecimalRegisters$Natural" "size" "I", .methodLink RX1 34 yX1_figure, .instanceMethod yX1_figure, .selects RX1 yX1_figure yX1_figure, .initialized RX1, .code yX1_figure cX1_figure 3 (some .int), .fieldLink RX1 9 "DecimalRegisters$Natural" "limbs" "[J", .fieldLink RX1 42 "DecimalRegisters$Natural" "TENS" "[J", .constantLong RX1 45 (10)] ++ wsX10)
def wsX1_lowestBits : List Cond := .code yX1_lowestBits cX1_lowestBits 4 (some .long) :: ([.fieldLink RX1 13 "DecimalRegisters$Natural" "size" "I", .constantLong RX1 26 (1000000), .fieldLink RX1 9 "DecimalRegisters$Natural" "limbs" "[J"] ++ wsX10)
def wsX1_order : List Cond := .code yX1_order cX1_order 3 (some .int) :: ([.fieldLink RX1 13 "DecimalRegisters$Natural" "size" "I", .fieldLink RX1 9 "DecimalRegisters$Natural" "limbs" "[J"] ++ wsX10)
def wsX1_close : List Cond := .code yX1_close cX1_close 4 none :: ([.fieldLink RX1 13 "DecimalRegisters$Natural" "size" "I", .fieldLink RX1 9 "DecimalRegisters$Natural" "limbs" "[J"] ++ wsX10)
def wsX1_add : List Cond := .code yX1_add cX1_add 8 none :: ([.fieldLink RX1 13 "DecimalRegisters$Natural" "size" "I", .methodLink RX1 38 Lib.Math.max.name, .static Lib.Math.max.name, .initialized "java/lang/Math", .code Lib.Math.max.name Lib.Math.max.code 2 (some .int), .fieldLink RX1 9 "DecimalRegisters$Natural" "limbs" "[J", .constantLong RX1 26 (1000000), .methodLink RX1 47 yX1_close, .instanceMethod yX1_close, .selects RX1 yX1_close yX1_close, .initialized RX1, .code yX1_close cX1_close 4 none] ++ wsX10)
def wsX1_shrink : List Cond := .code yX1_shrink cX1_shrink 1 none :: ([.fieldLink RX1 13 "DecimalRegisters$Natural" "size" "I", .fieldLink RX1 9 "DecimalRegisters$Natural" "limbs" "[J"] ++ wsX10)
def wsX1_subtract : List Cond := .code yX1_subtract cX1_subtract 7 none :: ([.fieldLink RX1 13 "DecimalRegisters$Natural" "size" "I", .fieldLink RX1 9 "DecimalRegisters$Natural" "limbs" "[J", .constantLong RX1 26 (1000000), .methodLink RX1 51 yX1_shrink, .instanceMethod yX1_shrink, .selects RX1 yX1_shrink yX1_shrink, .initialized RX1, .code yX1_shrink cX1_shrink 1 none] ++ wsX10)
def wsX1_becomeProduct : List Cond := .code yX1_becomeProduct cX1_becomeProduct 9 none :: ([.fieldLink RX1 13 "DecimalRegisters$Natural" "size" "I", .fieldLink RX1 9 "DecimalRegisters$Natural" "limbs" "[J", .constantLong RX1 26 (1000000), .methodLink RX1 23 yX1_clear, .instanceMethod yX1_clear, .selects RX1 yX1_clear yX1_clear, .initialized RX1, .code yX1_clear cX1_clear 2 none, .methodLink RX1 51 yX1_shrink, .instanceMethod yX1_shrink, .selects RX1 yX1_shrink yX1_shrink, .code yX1_shrink cX1_shrink 1 none] ++ wsX10)
def wsX1_shift : List Cond := .code yX1_shift cX1_shift 3 none :: ([.fieldLink RX1 13 "DecimalRegisters$Natural" "size" "I", .fieldLink RX1 9 "DecimalRegisters$Natural" "limbs" "[J"] ++ wsX10)
def wsX1_raise : List Cond := .code yX1_raise cX1_raise 10 none :: ([.fieldLink RX1 13 "DecimalRegisters$Natural" "size" "I", .fieldLink RX1 42 "DecimalRegisters$Natural" "TENS" "[J", .fieldLink RX1 9 "DecimalRegisters$Natural" "limbs" "[J", .constantLong RX1 26 (1000000), .methodLink RX1 47 yX1_close, .instanceMethod yX1_close, .selects RX1 yX1_close yX1_close, .initialized RX1, .code yX1_close cX1_close 4 none, .methodLink RX1 54 yX1_shift, .instanceMethod yX1_shift, .selects RX1 yX1_shift yX1_shift, .code yX1_shift cX1_shift 3 none] ++ wsX10)
def wsX1_guess : List Cond := .code yX1_guess cX1_guess 8 (some .long) :: ([.fieldLink RX1 13 "DecimalRegisters$Natural" "size" "I", .fieldLink RX1 9 "DecimalRegisters$Natural" "limbs" "[J", .constantLong RX1 26 (1000000)] ++ wsX10)
def wsJ9_floorDiv_f86c9 : List Cond := .code yJ9_floorDiv_f86c9 cJ9_floorDiv_f86c9 6 (some .long) :: ([])
def wsX1_takeAway : List Cond := .code yX1_takeAway cX1_takeAway 10 none :: ([.fieldLink RX1 13 "DecimalRegisters$Natural" "size" "I", .fieldLink RX1 9 "DecimalRegisters$Natural" "limbs" "[J", .constantLong RX1 26 (1000000), .methodLink RX1 68 yJ9_floorDiv_f86c9, .static yJ9_floorDiv_f86c9, .initialized RJ9, .code yJ9_floorDiv_f86c9 cJ9_floorDiv_f86c9 6 (some .long)] ++ wsX10)
def wsX1_takeOut_r1 : List Cond := [Cond.fieldLink RX1 13 "DecimalRegisters$Natural" "size" "I", Cond.fieldLink RX1 9 "DecimalRegisters$Natural" "limbs" "[J", Cond.constantLong RX1 66 (-1), Cond.methodLink RX1 23 yX1_clear, Cond.instanceMethod yX1_clear, Cond.selects RX1 yX1_clear yX1_clear, Cond.initialized RX1, Cond.code yX1_clear cX1_clear 2 none, Cond.methodLink RX1 58 yX1_guess, Cond.instanceMethod yX1_guess, Cond.selects RX1 yX1_guess yX1_guess, Cond.code yX1_guess cX1_guess 8 (some .long), Cond.constantLong RX1 26 (1000000), Cond.methodLink RX1 62 yX1_takeAway, Cond.instanceMethod yX1_takeAway, Cond.selects RX1 yX1_takeAway yX1_takeAway, Cond.code yX1_takeAway cX1_takeAway 10 none, Cond.methodLink RX1 68 yJ9_floorDiv_f86c9, Cond.static yJ9_floorDiv_f86c9, Cond.initialized RJ9, Cond.code yJ9_floorDiv_f86c9 cJ9_floorDiv_f86c9 6 (some .long), Cond.methodLink RX1 51 yX1_shrink, Cond.instanceMethod yX1_shrink, Cond.selects RX1 yX1_shrink yX1_shrink]
def wsX1_takeOut_r2 : List Cond := [Cond.code yX1_shrink cX1_shrink 1 none]
def wsX1_takeOut : List Cond := .code yX1_takeOut cX1_takeOut 7 none :: ((wsX1_takeOut_r1 ++ wsX1_takeOut_r2) ++ wsX10)
def wsX2_init_r1 : List Cond := [Cond.methodLink RX2 1 objectInit, Cond.instanceMethod objectInit, Cond.code objectInit ⟨#[0xb1]⟩ 1 none, Cond.classLink RX2 9 RX0, Cond.fieldLink RX2 11 "DecimalRegisters" "registers" "[LDecimalRegisters$Decimal;", Cond.instantiable RX0 3, Cond.initialized RX0, Cond.fieldLink RX2 16 "DecimalRegisters" "result" "LDecimalRegisters$Decimal;", Cond.fieldLink RX2 20 "DecimalRegisters" "one" "LDecimalRegisters$Decimal;", Cond.fieldLink RX2 23 "DecimalRegisters$Decimal" "digits" "LDecimalRegisters$Natural;", Cond.classLink RX2 28 RX1, Cond.instantiable RX1 2, Cond.initialized RX1, Cond.fieldLink RX2 34 "DecimalRegisters" "top" "LDecimalRegisters$Natural;", Cond.fieldLink RX2 37 "DecimalRegisters" "bottom" "LDecimalRegisters$Natural;", Cond.arrayClass .char, Cond.fieldLink RX2 40 "DecimalRegisters" "text" "[C", Cond.fieldLink RX2 44 "DecimalRegisters" "textLength" "I", Cond.instanceMethod yX0_init, Cond.code yX0_init cX0_init 1 none, Cond.methodLink RX0 1 objectInit, Cond.classLink RX0 7 RX1, Cond.fieldLink RX0 10 "DecimalRegisters$Decimal" "digits" "LDecimalRegisters$Natural;", Cond.instanceMethod yX1_init]
def wsX2_init_r2 : List Cond := [Cond.code yX1_init cX1_init 1 none, Cond.methodLink RX1 1 objectInit, Cond.arrayClass .long, Cond.fieldLink RX1 9 "DecimalRegisters$Natural" "limbs" "[J", Cond.methodLink RX2 27 yX1_becomeSizeOf, Cond.instanceMethod yX1_becomeSizeOf, Cond.selects RX1 yX1_becomeSizeOf yX1_becomeSizeOf, Cond.code yX1_becomeSizeOf cX1_becomeSizeOf 6 none, Cond.constantLong RX1 26 (1000000), Cond.methodLink RX1 28 Lib.MathLoose.abs_long.x, Cond.static Lib.MathLoose.abs_long.x, Cond.initialized "java/lang/Math", Cond.code Lib.MathLoose.abs_long.x Lib.MathLoose.abs_long.code 2 (some .long), Cond.fieldLink RX1 13 "DecimalRegisters$Natural" "size" "I", Cond.methodLink RX1 23 yX1_clear, Cond.instanceMethod yX1_clear, Cond.selects RX1 yX1_clear yX1_clear, Cond.code yX1_clear cX1_clear 2 none]
def wsX2_init : List Cond := .code yX2_init cX2_init 2 none :: ((wsX2_init_r1 ++ wsX2_init_r2) ++ wsX20 ++ wsX00 ++ wsX10)
def wsX2_isRegister : List Cond := .code yX2_isRegister cX2_isRegister 1 (some .boolean) :: ([])
def wsX2_isScale : List Cond := .code yX2_isScale cX2_isScale 1 (some .boolean) :: ([])
def wsX2_keep_r1 : List Cond := [Cond.fieldLink RX2 16 "DecimalRegisters" "result" "LDecimalRegisters$Decimal;", Cond.fieldLink RX2 23 "DecimalRegisters$Decimal" "digits" "LDecimalRegisters$Natural;", Cond.fieldLink RX2 56 "DecimalRegisters$Decimal" "scale" "I", Cond.fieldLink RX2 11 "DecimalRegisters" "registers" "[LDecimalRegisters$Decimal;", Cond.methodLink RX2 114 yX1_precision, Cond.instanceMethod yX1_precision, Cond.selects RX1 yX1_precision yX1_precision, Cond.initialized RX1, Cond.code yX1_precision cX1_precision 2 (some .int), Cond.fieldLink RX1 13 "DecimalRegisters$Natural" "size" "I", Cond.methodLink RX1 38 Lib.Math.max.name, Cond.static Lib.Math.max.name, Cond.initialized "java/lang/Math", Cond.code Lib.Math.max.name Lib.Math.max.code 2 (some .int), Cond.methodLink RX1 34 yX1_figure, Cond.instanceMethod yX1_figure, Cond.selects RX1 yX1_figure yX1_figure, Cond.code yX1_figure cX1_figure 3 (some .int), Cond.fieldLink RX1 9 "DecimalRegisters$Natural" "limbs" "[J", Cond.fieldLink RX1 42 "DecimalRegisters$Natural" "TENS" "[J", Cond.constantLong RX1 45 (10), Cond.methodLink RX2 150 yX2_isScale, Cond.static yX2_isScale, Cond.initialized RX2]
def wsX2_keep_r2 : List Cond := [Cond.code yX2_isScale cX2_isScale 1 (some .boolean), Cond.methodLink RX2 63 yX0_become, Cond.instanceMethod yX0_become, Cond.selects RX0 yX0_become yX0_become, Cond.initialized RX0, Cond.code yX0_become cX0_become 2 none, Cond.fieldLink RX0 10 "DecimalRegisters$Decimal" "digits" "LDecimalRegisters$Natural;", Cond.fieldLink RX0 16 "DecimalRegisters$Decimal" "minus" "Z", Cond.fieldLink RX0 20 "DecimalRegisters$Decimal" "scale" "I", Cond.methodLink RX0 24 yX0_take, Cond.instanceMethod yX0_take, Cond.selects RX0 yX0_take yX0_take, Cond.code yX0_take cX0_take 4 none, Cond.methodLink RX0 28 yX1_become, Cond.instanceMethod yX1_become, Cond.selects RX1 yX1_become yX1_become, Cond.code yX1_become cX1_become 2 none, Cond.methodLink RX1 17 arraycopyName, Cond.native arraycopyName, Cond.static arraycopyName, Cond.initialized "java/lang/System", Cond.methodLink RX0 32 yX1_isZero, Cond.instanceMethod yX1_isZero, Cond.selects RX1 yX1_isZero yX1_isZero]
def wsX2_keep_r3 : List Cond := [Cond.code yX1_isZero cX1_isZero 1 (some .boolean)]
def wsX2_keep : List Cond := .code yX2_keep cX2_keep 3 (some .int) :: ((wsX2_keep_r1 ++ (wsX2_keep_r2 ++ wsX2_keep_r3)) ++ wsX20 ++ wsX00 ++ wsX10)
def wsX2_load_r1 : List Cond := [Cond.fieldLink RX2 16 "DecimalRegisters" "result" "LDecimalRegisters$Decimal;", Cond.fieldLink RX2 23 "DecimalRegisters$Decimal" "digits" "LDecimalRegisters$Natural;", Cond.fieldLink RX2 52 "DecimalRegisters$Decimal" "minus" "Z", Cond.fieldLink RX2 56 "DecimalRegisters$Decimal" "scale" "I", Cond.methodLink RX2 48 yX2_isRegister, Cond.static yX2_isRegister, Cond.initialized RX2, Cond.code yX2_isRegister cX2_isRegister 1 (some .boolean), Cond.methodLink RX2 27 yX1_becomeSizeOf, Cond.instanceMethod yX1_becomeSizeOf, Cond.selects RX1 yX1_becomeSizeOf yX1_becomeSizeOf, Cond.initialized RX1, Cond.code yX1_becomeSizeOf cX1_becomeSizeOf 6 none, Cond.fieldLink RX1 9 "DecimalRegisters$Natural" "limbs" "[J", Cond.constantLong RX1 26 (1000000), Cond.methodLink RX1 28 Lib.MathLoose.abs_long.x, Cond.static Lib.MathLoose.abs_long.x, Cond.initialized "java/lang/Math", Cond.code Lib.MathLoose.abs_long.x Lib.MathLoose.abs_long.code 2 (some .long), Cond.fieldLink RX1 13 "DecimalRegisters$Natural" "size" "I", Cond.methodLink RX1 23 yX1_clear, Cond.instanceMethod yX1_clear, Cond.selects RX1 yX1_clear yX1_clear, Cond.code yX1_clear cX1_clear 2 none]
def wsX2_load_r2 : List Cond := [Cond.methodLink RX2 59 yX2_keep, Cond.instanceMethod yX2_keep, Cond.selects RX2 yX2_keep yX2_keep, Cond.code yX2_keep cX2_keep 3 (some .int), Cond.fieldLink RX2 11 "DecimalRegisters" "registers" "[LDecimalRegisters$Decimal;", Cond.methodLink RX2 114 yX1_precision, Cond.instanceMethod yX1_precision, Cond.selects RX1 yX1_precision yX1_precision, Cond.code yX1_precision cX1_precision 2 (some .int), Cond.methodLink RX1 38 Lib.Math.max.name, Cond.static Lib.Math.max.name, Cond.code Lib.Math.max.name Lib.Math.max.code 2 (some .int), Cond.methodLink RX1 34 yX1_figure, Cond.instanceMethod yX1_figure, Cond.selects RX1 yX1_figure yX1_figure, Cond.code yX1_figure cX1_figure 3 (some .int), Cond.fieldLink RX1 42 "DecimalRegisters$Natural" "TENS" "[J", Cond.constantLong RX1 45 (10), Cond.methodLink RX2 150 yX2_isScale, Cond.static yX2_isScale, Cond.code yX2_isScale cX2_isScale 1 (some .boolean), Cond.methodLink RX2 63 yX0_become, Cond.instanceMethod yX0_become, Cond.selects RX0 yX0_become yX0_become]
def wsX2_load_r3 : List Cond := [Cond.initialized RX0, Cond.code yX0_become cX0_become 2 none, Cond.fieldLink RX0 10 "DecimalRegisters$Decimal" "digits" "LDecimalRegisters$Natural;", Cond.fieldLink RX0 16 "DecimalRegisters$Decimal" "minus" "Z", Cond.fieldLink RX0 20 "DecimalRegisters$Decimal" "scale" "I", Cond.methodLink RX0 24 yX0_take, Cond.instanceMethod yX0_take, Cond.selects RX0 yX0_take yX0_take, Cond.code yX0_take cX0_take 4 none, Cond.methodLink RX0 28 yX1_become, Cond.instanceMethod yX1_become, Cond.selects RX1 yX1_become yX1_become, Cond.code yX1_become cX1_become 2 none, Cond.methodLink RX1 17 arraycopyName, Cond.native arraycopyName, Cond.static arraycopyName, Cond.initialized "java/lang/System", Cond.methodLink RX0 32 yX1_isZero, Cond.instanceMethod yX1_isZero, Cond.selects RX1 yX1_isZero yX1_isZero, Cond.code yX1_isZero cX1_isZero 1 (some .boolean)]
def wsX2_load : List Cond := .code yX2_load cX2_load 5 (some .int) :: ((wsX2_load_r1 ++ (wsX2_load_r2 ++ wsX2_load_r3)) ++ wsX20 ++ wsX00 ++ wsX10)
def wsX2_push_r1 : List Cond := [Cond.fieldLink RX2 16 "DecimalRegisters" "result" "LDecimalRegisters$Decimal;", Cond.fieldLink RX2 11 "DecimalRegisters" "registers" "[LDecimalRegisters$Decimal;", Cond.fieldLink RX2 23 "DecimalRegisters$Decimal" "digits" "LDecimalRegisters$Natural;", Cond.fieldLink RX2 34 "DecimalRegisters" "top" "LDecimalRegisters$Natural;", Cond.constantLong RX2 71 (1000000000000000000), Cond.methodLink RX2 48 yX2_isRegister, Cond.static yX2_isRegister, Cond.initialized RX2, Cond.code yX2_isRegister cX2_isRegister 1 (some .boolean), Cond.methodLink RX2 63 yX0_become, Cond.instanceMethod yX0_become, Cond.selects RX0 yX0_become yX0_become, Cond.initialized RX0, Cond.code yX0_become cX0_become 2 none, Cond.fieldLink RX0 10 "DecimalRegisters$Decimal" "digits" "LDecimalRegisters$Natural;", Cond.fieldLink RX0 16 "DecimalRegisters$Decimal" "minus" "Z", Cond.fieldLink RX0 20 "DecimalRegisters$Decimal" "scale" "I", Cond.methodLink RX0 24 yX0_take, Cond.instanceMethod yX0_take, Cond.selects RX0 yX0_take yX0_take, Cond.code yX0_take cX0_take 4 none, Cond.methodLink RX0 28 yX1_become, Cond.instanceMethod yX1_become, Cond.selects RX1 yX1_become yX1_become]
def wsX2_push_r2 : List Cond := [Cond.initialized RX1, Cond.code yX1_become cX1_become 2 none, Cond.fieldLink RX1 9 "DecimalRegisters$Natural" "limbs" "[J", Cond.methodLink RX1 17 arraycopyName, Cond.native arraycopyName, Cond.static arraycopyName, Cond.initialized "java/lang/System", Cond.fieldLink RX1 13 "DecimalRegisters$Natural" "size" "I", Cond.methodLink RX0 32 yX1_isZero, Cond.instanceMethod yX1_isZero, Cond.selects RX1 yX1_isZero yX1_isZero, Cond.code yX1_isZero cX1_isZero 1 (some .boolean), Cond.methodLink RX2 67 yX1_raise, Cond.instanceMethod yX1_raise, Cond.selects RX1 yX1_raise yX1_raise, Cond.code yX1_raise cX1_raise 10 none, Cond.fieldLink RX1 42 "DecimalRegisters$Natural" "TENS" "[J", Cond.constantLong RX1 26 (1000000), Cond.methodLink RX1 47 yX1_close, Cond.instanceMethod yX1_close, Cond.selects RX1 yX1_close yX1_close, Cond.code yX1_close cX1_close 4 none, Cond.methodLink RX1 54 yX1_shift, Cond.instanceMethod yX1_shift]
def wsX2_push_r3 : List Cond := [Cond.selects RX1 yX1_shift yX1_shift, Cond.code yX1_shift cX1_shift 3 none, Cond.methodLink RX2 27 yX1_becomeSizeOf, Cond.instanceMethod yX1_becomeSizeOf, Cond.selects RX1 yX1_becomeSizeOf yX1_becomeSizeOf, Cond.code yX1_becomeSizeOf cX1_becomeSizeOf 6 none, Cond.methodLink RX1 28 Lib.MathLoose.abs_long.x, Cond.static Lib.MathLoose.abs_long.x, Cond.initialized "java/lang/Math", Cond.code Lib.MathLoose.abs_long.x Lib.MathLoose.abs_long.code 2 (some .long), Cond.methodLink RX1 23 yX1_clear, Cond.instanceMethod yX1_clear, Cond.selects RX1 yX1_clear yX1_clear, Cond.code yX1_clear cX1_clear 2 none, Cond.methodLink RX2 73 yX1_add, Cond.instanceMethod yX1_add, Cond.selects RX1 yX1_add yX1_add, Cond.code yX1_add cX1_add 8 none, Cond.methodLink RX1 38 Lib.Math.max.name, Cond.static Lib.Math.max.name, Cond.code Lib.Math.max.name Lib.Math.max.code 2 (some .int), Cond.methodLink RX2 59 yX2_keep, Cond.instanceMethod yX2_keep, Cond.selects RX2 yX2_keep yX2_keep]
def wsX2_push_r4 : List Cond := [Cond.code yX2_keep cX2_keep 3 (some .int), Cond.fieldLink RX2 56 "DecimalRegisters$Decimal" "scale" "I", Cond.methodLink RX2 114 yX1_precision, Cond.instanceMethod yX1_precision, Cond.selects RX1 yX1_precision yX1_precision, Cond.code yX1_precision cX1_precision 2 (some .int), Cond.methodLink RX1 34 yX1_figure, Cond.instanceMethod yX1_figure, Cond.selects RX1 yX1_figure yX1_figure, Cond.code yX1_figure cX1_figure 3 (some .int), Cond.constantLong RX1 45 (10), Cond.methodLink RX2 150 yX2_isScale, Cond.static yX2_isScale, Cond.code yX2_isScale cX2_isScale 1 (some .boolean)]
def wsX2_push : List Cond := .code yX2_push cX2_push 4 (some .int) :: ((wsX2_push_r1 ++ (wsX2_push_r2 ++ (wsX2_push_r3 ++ wsX2_push_r4))) ++ wsX20 ++ wsX00 ++ wsX10)
def wsX2_align_r1 : List Cond := [Cond.fieldLink RX2 56 "DecimalRegisters$Decimal" "scale" "I", Cond.fieldLink RX2 34 "DecimalRegisters" "top" "LDecimalRegisters$Natural;", Cond.fieldLink RX2 23 "DecimalRegisters$Decimal" "digits" "LDecimalRegisters$Natural;", Cond.fieldLink RX2 37 "DecimalRegisters" "bottom" "LDecimalRegisters$Natural;", Cond.methodLink RX2 153 yX1_become, Cond.instanceMethod yX1_become, Cond.selects RX1 yX1_become yX1_become, Cond.initialized RX1, Cond.code yX1_become cX1_become 2 none, Cond.fieldLink RX1 9 "DecimalRegisters$Natural" "limbs" "[J", Cond.methodLink RX1 17 arraycopyName, Cond.native arraycopyName, Cond.static arraycopyName, Cond.initialized "java/lang/System", Cond.fieldLink RX1 13 "DecimalRegisters$Natural" "size" "I", Cond.methodLink RX2 67 yX1_raise, Cond.instanceMethod yX1_raise, Cond.selects RX1 yX1_raise yX1_raise, Cond.code yX1_raise cX1_raise 10 none, Cond.fieldLink RX1 42 "DecimalRegisters$Natural" "TENS" "[J", Cond.constantLong RX1 26 (1000000), Cond.methodLink RX1 47 yX1_close, Cond.instanceMethod yX1_close, Cond.selects RX1 yX1_close yX1_close]
def wsX2_align_r2 : List Cond := [Cond.code yX1_close cX1_close 4 none, Cond.methodLink RX1 54 yX1_shift, Cond.instanceMethod yX1_shift, Cond.selects RX1 yX1_shift yX1_shift, Cond.code yX1_shift cX1_shift 3 none]
def wsX2_align : List Cond := .code yX2_align cX2_align 5 none :: ((wsX2_align_r1 ++ wsX2_align_r2) ++ wsX00 ++ wsX20 ++ wsX10)
def wsX2_addUp_r1 : List Cond := [Cond.fieldLink RX2 56 "DecimalRegisters$Decimal" "scale" "I", Cond.methodLink RX2 100 Lib.Math.max.name, Cond.static Lib.Math.max.name, Cond.initialized "java/lang/Math", Cond.code Lib.Math.max.name Lib.Math.max.code 2 (some .int), Cond.fieldLink RX2 52 "DecimalRegisters$Decimal" "minus" "Z", Cond.fieldLink RX2 34 "DecimalRegisters" "top" "LDecimalRegisters$Natural;", Cond.fieldLink RX2 37 "DecimalRegisters" "bottom" "LDecimalRegisters$Natural;", Cond.fieldLink RX2 16 "DecimalRegisters" "result" "LDecimalRegisters$Decimal;", Cond.methodLink RX2 155 yX2_align, Cond.instanceMethod yX2_align, Cond.selects RX2 yX2_align yX2_align, Cond.initialized RX2, Cond.code yX2_align cX2_align 5 none, Cond.fieldLink RX2 23 "DecimalRegisters$Decimal" "digits" "LDecimalRegisters$Natural;", Cond.methodLink RX2 153 yX1_become, Cond.instanceMethod yX1_become, Cond.selects RX1 yX1_become yX1_become, Cond.initialized RX1, Cond.code yX1_become cX1_become 2 none, Cond.fieldLink RX1 9 "DecimalRegisters$Natural" "limbs" "[J", Cond.methodLink RX1 17 arraycopyName, Cond.native arraycopyName, Cond.static arraycopyName]
def wsX2_addUp_r2 : List Cond := [Cond.initialized "java/lang/System", Cond.fieldLink RX1 13 "DecimalRegisters$Natural" "size" "I", Cond.methodLink RX2 67 yX1_raise, Cond.instanceMethod yX1_raise, Cond.selects RX1 yX1_raise yX1_raise, Cond.code yX1_raise cX1_raise 10 none, Cond.fieldLink RX1 42 "DecimalRegisters$Natural" "TENS" "[J", Cond.constantLong RX1 26 (1000000), Cond.methodLink RX1 47 yX1_close, Cond.instanceMethod yX1_close, Cond.selects RX1 yX1_close yX1_close, Cond.code yX1_close cX1_close 4 none, Cond.methodLink RX1 54 yX1_shift, Cond.instanceMethod yX1_shift, Cond.selects RX1 yX1_shift yX1_shift, Cond.code yX1_shift cX1_shift 3 none, Cond.methodLink RX2 73 yX1_add, Cond.instanceMethod yX1_add, Cond.selects RX1 yX1_add yX1_add, Cond.code yX1_add cX1_add 8 none, Cond.methodLink RX1 38 Lib.Math.max.name, Cond.methodLink RX2 110 yX0_take, Cond.instanceMethod yX0_take, Cond.selects RX0 yX0_take yX0_take]
def wsX2_addUp_r3 : List Cond := [Cond.initialized RX0, Cond.code yX0_take cX0_take 4 none, Cond.fieldLink RX0 10 "DecimalRegisters$Decimal" "digits" "LDecimalRegisters$Natural;", Cond.fieldLink RX0 16 "DecimalRegisters$Decimal" "minus" "Z", Cond.fieldLink RX0 20 "DecimalRegisters$Decimal" "scale" "I", Cond.methodLink RX0 28 yX1_become, Cond.methodLink RX0 32 yX1_isZero, Cond.instanceMethod yX1_isZero, Cond.selects RX1 yX1_isZero yX1_isZero, Cond.code yX1_isZero cX1_isZero 1 (some .boolean), Cond.methodLink RX2 127 yX1_order, Cond.instanceMethod yX1_order, Cond.selects RX1 yX1_order yX1_order, Cond.code yX1_order cX1_order 3 (some .int), Cond.methodLink RX2 169 yX1_subtract, Cond.instanceMethod yX1_subtract, Cond.selects RX1 yX1_subtract yX1_subtract, Cond.code yX1_subtract cX1_subtract 7 none, Cond.methodLink RX1 51 yX1_shrink, Cond.instanceMethod yX1_shrink, Cond.selects RX1 yX1_shrink yX1_shrink, Cond.code yX1_shrink cX1_shrink 1 none]
def wsX2_addUp : List Cond := .code yX2_addUp cX2_addUp 5 none :: ((wsX2_addUp_r1 ++ (wsX2_addUp_r2 ++ wsX2_addUp_r3)) ++ wsX00 ++ wsX20 ++ wsX10)
def wsX2_multiply_r1 : List Cond := [Cond.fieldLink RX2 34 "DecimalRegisters" "top" "LDecimalRegisters$Natural;", Cond.fieldLink RX2 23 "DecimalRegisters$Decimal" "digits" "LDecimalRegisters$Natural;", Cond.fieldLink RX2 16 "DecimalRegisters" "result" "LDecimalRegisters$Decimal;", Cond.fieldLink RX2 52 "DecimalRegisters$Decimal" "minus" "Z", Cond.fieldLink RX2 56 "DecimalRegisters$Decimal" "scale" "I", Cond.methodLink RX2 172 yX1_becomeProduct, Cond.instanceMethod yX1_becomeProduct, Cond.selects RX1 yX1_becomeProduct yX1_becomeProduct, Cond.initialized RX1, Cond.code yX1_becomeProduct cX1_becomeProduct 9 none, Cond.fieldLink RX1 13 "DecimalRegisters$Natural" "size" "I", Cond.fieldLink RX1 9 "DecimalRegisters$Natural" "limbs" "[J", Cond.constantLong RX1 26 (1000000), Cond.methodLink RX1 23 yX1_clear, Cond.instanceMethod yX1_clear, Cond.selects RX1 yX1_clear yX1_clear, Cond.code yX1_clear cX1_clear 2 none, Cond.methodLink RX1 51 yX1_shrink, Cond.instanceMethod yX1_shrink, Cond.selects RX1 yX1_shrink yX1_shrink, Cond.code yX1_shrink cX1_shrink 1 none, Cond.methodLink RX2 110 yX0_take, Cond.instanceMethod yX0_take, Cond.selects RX0 yX0_take yX0_take]
def wsX2_multiply_r2 : List Cond := [Cond.initialized RX0, Cond.code yX0_take cX0_take 4 none, Cond.fieldLink RX0 10 "DecimalRegisters$Decimal" "digits" "LDecimalRegisters$Natural;", Cond.fieldLink RX0 16 "DecimalRegisters$Decimal" "minus" "Z", Cond.fieldLink RX0 20 "DecimalRegisters$Decimal" "scale" "I", Cond.methodLink RX0 28 yX1_become, Cond.instanceMethod yX1_become, Cond.selects RX1 yX1_become yX1_become, Cond.code yX1_become cX1_become 2 none, Cond.methodLink RX1 17 arraycopyName, Cond.native arraycopyName, Cond.static arraycopyName, Cond.initialized "java/lang/System", Cond.methodLink RX0 32 yX1_isZero, Cond.instanceMethod yX1_isZero, Cond.selects RX1 yX1_isZero yX1_isZero, Cond.code yX1_isZero cX1_isZero 1 (some .boolean)]
def wsX2_multiply : List Cond := .code yX2_multiply cX2_multiply 3 none :: ((wsX2_multiply_r1 ++ wsX2_multiply_r2) ++ wsX20 ++ wsX00 ++ wsX10)
def wsX2_order_r1 : List Cond := [Cond.fieldLink RX2 52 "DecimalRegisters$Decimal" "minus" "Z", Cond.fieldLink RX2 37 "DecimalRegisters" "bottom" "LDecimalRegisters$Natural;", Cond.fieldLink RX2 34 "DecimalRegisters" "top" "LDecimalRegisters$Natural;", Cond.methodLink RX2 130 yX0_sign, Cond.instanceMethod yX0_sign, Cond.selects RX0 yX0_sign yX0_sign, Cond.initialized RX0, Cond.code yX0_sign cX0_sign 1 (some .int), Cond.fieldLink RX0 10 "DecimalRegisters$Decimal" "digits" "LDecimalRegisters$Natural;", Cond.fieldLink RX0 16 "DecimalRegisters$Decimal" "minus" "Z", Cond.methodLink RX0 32 yX1_isZero, Cond.instanceMethod yX1_isZero, Cond.selects RX1 yX1_isZero yX1_isZero, Cond.initialized RX1, Cond.code yX1_isZero cX1_isZero 1 (some .boolean), Cond.fieldLink RX1 13 "DecimalRegisters$Natural" "size" "I", Cond.methodLink RX2 155 yX2_align, Cond.instanceMethod yX2_align, Cond.selects RX2 yX2_align yX2_align, Cond.initialized RX2, Cond.code yX2_align cX2_align 5 none, Cond.fieldLink RX2 56 "DecimalRegisters$Decimal" "scale" "I", Cond.fieldLink RX2 23 "DecimalRegisters$Decimal" "digits" "LDecimalRegisters$Natural;", Cond.methodLink RX2 153 yX1_become]
def wsX2_order_r2 : List Cond := [Cond.instanceMethod yX1_become, Cond.selects RX1 yX1_become yX1_become, Cond.code yX1_become cX1_become 2 none, Cond.fieldLink RX1 9 "DecimalRegisters$Natural" "limbs" "[J", Cond.methodLink RX1 17 arraycopyName, Cond.native arraycopyName, Cond.static arraycopyName, Cond.initialized "java/lang/System", Cond.methodLink RX2 67 yX1_raise, Cond.instanceMethod yX1_raise, Cond.selects RX1 yX1_raise yX1_raise, Cond.code yX1_raise cX1_raise 10 none, Cond.fieldLink RX1 42 "DecimalRegisters$Natural" "TENS" "[J", Cond.constantLong RX1 26 (1000000), Cond.methodLink RX1 47 yX1_close, Cond.instanceMethod yX1_close, Cond.selects RX1 yX1_close yX1_close, Cond.code yX1_close cX1_close 4 none, Cond.methodLink RX1 54 yX1_shift, Cond.instanceMethod yX1_shift, Cond.selects RX1 yX1_shift yX1_shift, Cond.code yX1_shift cX1_shift 3 none, Cond.methodLink RX2 127 yX1_order, Cond.instanceMethod yX1_order]
def wsX2_order_r3 : List Cond := [Cond.selects RX1 yX1_order yX1_order, Cond.code yX1_order cX1_order 3 (some .int)]
def wsX2_order : List Cond := .code yX2_order cX2_order 3 (some .int) :: ((wsX2_order_r1 ++ (wsX2_order_r2 ++ wsX2_order_r3)) ++ wsX00 ++ wsX20 ++ wsX10)
def wsX2_reckon_r1 : List Cond := [Cond.fieldLink RX2 11 "DecimalRegisters" "registers" "[LDecimalRegisters$Decimal;", Cond.fieldLink RX2 52 "DecimalRegisters$Decimal" "minus" "Z", Cond.fieldLink RX2 16 "DecimalRegisters" "result" "LDecimalRegisters$Decimal;", Cond.methodLink RX2 48 yX2_isRegister, Cond.static yX2_isRegister, Cond.initialized RX2, Cond.code yX2_isRegister cX2_isRegister 1 (some .boolean), Cond.methodLink RX2 77 yX2_addUp, Cond.instanceMethod yX2_addUp, Cond.selects RX2 yX2_addUp yX2_addUp, Cond.code yX2_addUp cX2_addUp 5 none, Cond.fieldLink RX2 56 "DecimalRegisters$Decimal" "scale" "I", Cond.methodLink RX2 100 Lib.Math.max.name, Cond.static Lib.Math.max.name, Cond.initialized "java/lang/Math", Cond.code Lib.Math.max.name Lib.Math.max.code 2 (some .int), Cond.fieldLink RX2 34 "DecimalRegisters" "top" "LDecimalRegisters$Natural;", Cond.fieldLink RX2 37 "DecimalRegisters" "bottom" "LDecimalRegisters$Natural;", Cond.methodLink RX2 155 yX2_align, Cond.instanceMethod yX2_align, Cond.selects RX2 yX2_align yX2_align, Cond.code yX2_align cX2_align 5 none, Cond.fieldLink RX2 23 "DecimalRegisters$Decimal" "digits" "LDecimalRegisters$Natural;", Cond.methodLink RX2 153 yX1_become]
def wsX2_reckon_r2 : List Cond := [Cond.instanceMethod yX1_become, Cond.selects RX1 yX1_become yX1_become, Cond.initialized RX1, Cond.code yX1_become cX1_become 2 none, Cond.fieldLink RX1 9 "DecimalRegisters$Natural" "limbs" "[J", Cond.methodLink RX1 17 arraycopyName, Cond.native arraycopyName, Cond.static arraycopyName, Cond.initialized "java/lang/System", Cond.fieldLink RX1 13 "DecimalRegisters$Natural" "size" "I", Cond.methodLink RX2 67 yX1_raise, Cond.instanceMethod yX1_raise, Cond.selects RX1 yX1_raise yX1_raise, Cond.code yX1_raise cX1_raise 10 none, Cond.fieldLink RX1 42 "DecimalRegisters$Natural" "TENS" "[J", Cond.constantLong RX1 26 (1000000), Cond.methodLink RX1 47 yX1_close, Cond.instanceMethod yX1_close, Cond.selects RX1 yX1_close yX1_close, Cond.code yX1_close cX1_close 4 none, Cond.methodLink RX1 54 yX1_shift, Cond.instanceMethod yX1_shift, Cond.selects RX1 yX1_shift yX1_shift, Cond.code yX1_shift cX1_shift 3 none]
def wsX2_reckon_r3 : List Cond := [Cond.methodLink RX2 73 yX1_add, Cond.instanceMethod yX1_add, Cond.selects RX1 yX1_add yX1_add, Cond.code yX1_add cX1_add 8 none, Cond.methodLink RX1 38 Lib.Math.max.name, Cond.methodLink RX2 110 yX0_take, Cond.instanceMethod yX0_take, Cond.selects RX0 yX0_take yX0_take, Cond.initialized RX0, Cond.code yX0_take cX0_take 4 none, Cond.fieldLink RX0 10 "DecimalRegisters$Decimal" "digits" "LDecimalRegisters$Natural;", Cond.fieldLink RX0 16 "DecimalRegisters$Decimal" "minus" "Z", Cond.fieldLink RX0 20 "DecimalRegisters$Decimal" "scale" "I", Cond.methodLink RX0 28 yX1_become, Cond.methodLink RX0 32 yX1_isZero, Cond.instanceMethod yX1_isZero, Cond.selects RX1 yX1_isZero yX1_isZero, Cond.code yX1_isZero cX1_isZero 1 (some .boolean), Cond.methodLink RX2 127 yX1_order, Cond.instanceMethod yX1_order, Cond.selects RX1 yX1_order yX1_order, Cond.code yX1_order cX1_order 3 (some .int), Cond.methodLink RX2 169 yX1_subtract, Cond.instanceMethod yX1_subtract]
def wsX2_reckon_r4 : List Cond := [Cond.selects RX1 yX1_subtract yX1_subtract, Cond.code yX1_subtract cX1_subtract 7 none, Cond.methodLink RX1 51 yX1_shrink, Cond.instanceMethod yX1_shrink, Cond.selects RX1 yX1_shrink yX1_shrink, Cond.code yX1_shrink cX1_shrink 1 none, Cond.methodLink RX2 81 yX2_multiply, Cond.instanceMethod yX2_multiply, Cond.selects RX2 yX2_multiply yX2_multiply, Cond.code yX2_multiply cX2_multiply 3 none, Cond.methodLink RX2 172 yX1_becomeProduct, Cond.instanceMethod yX1_becomeProduct, Cond.selects RX1 yX1_becomeProduct yX1_becomeProduct, Cond.code yX1_becomeProduct cX1_becomeProduct 9 none, Cond.methodLink RX1 23 yX1_clear, Cond.instanceMethod yX1_clear, Cond.selects RX1 yX1_clear yX1_clear, Cond.code yX1_clear cX1_clear 2 none, Cond.methodLink RX2 85 yX2_order, Cond.instanceMethod yX2_order, Cond.selects RX2 yX2_order yX2_order, Cond.code yX2_order cX2_order 3 (some .int), Cond.methodLink RX2 130 yX0_sign, Cond.instanceMethod yX0_sign]
def wsX2_reckon_r5 : List Cond := [Cond.selects RX0 yX0_sign yX0_sign, Cond.code yX0_sign cX0_sign 1 (some .int), Cond.methodLink RX2 63 yX0_become, Cond.instanceMethod yX0_become, Cond.selects RX0 yX0_become yX0_become, Cond.code yX0_become cX0_become 2 none, Cond.methodLink RX0 24 yX0_take, Cond.methodLink RX2 59 yX2_keep, Cond.instanceMethod yX2_keep, Cond.selects RX2 yX2_keep yX2_keep, Cond.code yX2_keep cX2_keep 3 (some .int), Cond.methodLink RX2 114 yX1_precision, Cond.instanceMethod yX1_precision, Cond.selects RX1 yX1_precision yX1_precision, Cond.code yX1_precision cX1_precision 2 (some .int), Cond.methodLink RX1 34 yX1_figure, Cond.instanceMethod yX1_figure, Cond.selects RX1 yX1_figure yX1_figure, Cond.code yX1_figure cX1_figure 3 (some .int), Cond.constantLong RX1 45 (10), Cond.methodLink RX2 150 yX2_isScale, Cond.static yX2_isScale, Cond.code yX2_isScale cX2_isScale 1 (some .boolean)]
def wsX2_reckon : List Cond := .code yX2_reckon cX2_reckon 7 (some .int) :: ((wsX2_reckon_r1 ++ (wsX2_reckon_r2 ++ (wsX2_reckon_r3 ++ (wsX2_reckon_r4 ++ wsX2_reckon_r5)))) ++ wsX20 ++ wsX00 ++ wsX10)
def wsX2_isWay : List Cond := .code yX2_isWay cX2_isWay 1 (some .boolean) :: ([])
def wsX2_split_r1 : List Cond := [Cond.fieldLink RX2 34 "DecimalRegisters" "top" "LDecimalRegisters$Natural;", Cond.fieldLink RX2 37 "DecimalRegisters" "bottom" "LDecimalRegisters$Natural;", Cond.fieldLink RX2 16 "DecimalRegisters" "result" "LDecimalRegisters$Decimal;", Cond.fieldLink RX2 23 "DecimalRegisters$Decimal" "digits" "LDecimalRegisters$Natural;", Cond.fieldLink RX2 52 "DecimalRegisters$Decimal" "minus" "Z", Cond.fieldLink RX2 56 "DecimalRegisters$Decimal" "scale" "I", Cond.methodLink RX2 155 yX2_align, Cond.instanceMethod yX2_align, Cond.selects RX2 yX2_align yX2_align, Cond.initialized RX2, Cond.code yX2_align cX2_align 5 none, Cond.methodLink RX2 153 yX1_become, Cond.instanceMethod yX1_become, Cond.selects RX1 yX1_become yX1_become, Cond.initialized RX1, Cond.code yX1_become cX1_become 2 none, Cond.fieldLink RX1 9 "DecimalRegisters$Natural" "limbs" "[J", Cond.methodLink RX1 17 arraycopyName, Cond.native arraycopyName, Cond.static arraycopyName, Cond.initialized "java/lang/System", Cond.fieldLink RX1 13 "DecimalRegisters$Natural" "size" "I", Cond.methodLink RX2 67 yX1_raise, Cond.instanceMethod yX1_raise]
def wsX2_split_r2 : List Cond := [Cond.selects RX1 yX1_raise yX1_raise, Cond.code yX1_raise cX1_raise 10 none, Cond.fieldLink RX1 42 "DecimalRegisters$Natural" "TENS" "[J", Cond.constantLong RX1 26 (1000000), Cond.methodLink RX1 47 yX1_close, Cond.instanceMethod yX1_close, Cond.selects RX1 yX1_close yX1_close, Cond.code yX1_close cX1_close 4 none, Cond.methodLink RX1 54 yX1_shift, Cond.instanceMethod yX1_shift, Cond.selects RX1 yX1_shift yX1_shift, Cond.code yX1_shift cX1_shift 3 none, Cond.methodLink RX2 158 yX1_takeOut, Cond.instanceMethod yX1_takeOut, Cond.selects RX1 yX1_takeOut yX1_takeOut, Cond.code yX1_takeOut cX1_takeOut 7 none, Cond.constantLong RX1 66 (-1), Cond.methodLink RX1 23 yX1_clear, Cond.instanceMethod yX1_clear, Cond.selects RX1 yX1_clear yX1_clear, Cond.code yX1_clear cX1_clear 2 none, Cond.methodLink RX1 58 yX1_guess, Cond.instanceMethod yX1_guess, Cond.selects RX1 yX1_guess yX1_guess]
def wsX2_split_r3 : List Cond := [Cond.code yX1_guess cX1_guess 8 (some .long), Cond.methodLink RX1 62 yX1_takeAway, Cond.instanceMethod yX1_takeAway, Cond.selects RX1 yX1_takeAway yX1_takeAway, Cond.code yX1_takeAway cX1_takeAway 10 none, Cond.methodLink RX1 68 yJ9_floorDiv_f86c9, Cond.static yJ9_floorDiv_f86c9, Cond.initialized RJ9, Cond.code yJ9_floorDiv_f86c9 cJ9_floorDiv_f86c9 6 (some .long), Cond.methodLink RX1 51 yX1_shrink, Cond.instanceMethod yX1_shrink, Cond.selects RX1 yX1_shrink yX1_shrink, Cond.code yX1_shrink cX1_shrink 1 none]
def wsX2_split : List Cond := .code yX2_split cX2_split 4 none :: ((wsX2_split_r1 ++ (wsX2_split_r2 ++ wsX2_split_r3)) ++ wsX20 ++ wsX00 ++ wsX10)
def wsX2_isAwayFromZero : List Cond := .code yX2_isAwayFromZero cX2_isAwayFromZero 3 (some .boolean) :: ([.fieldLink RX2 16 "DecimalRegisters" "result" "LDecimalRegisters$Decimal;", .fieldLink RX2 52 "DecimalRegisters$Decimal" "minus" "Z", .fieldLink RX2 23 "DecimalRegisters$Decimal" "digits" "LDecimalRegisters$Natural;", .methodLink RX2 133 yX1_figure, .instanceMethod yX1_figure, .selects RX1 yX1_figure yX1_figure, .initialized RX1, .code yX1_figure cX1_figure 3 (some .int), .fieldLink RX1 13 "DecimalRegisters$Natural" "size" "I", .fieldLink RX1 9 "DecimalRegisters$Natural" "limbs" "[J", .fieldLink RX1 42 "DecimalRegisters$Natural" "TENS" "[J", .constantLong RX1 45 (10)] ++ wsX20 ++ wsX00 ++ wsX10)
def wsX2_settle_r1 : List Cond := [Cond.fieldLink RX2 34 "DecimalRegisters" "top" "LDecimalRegisters$Natural;", Cond.fieldLink RX2 37 "DecimalRegisters" "bottom" "LDecimalRegisters$Natural;", Cond.fieldLink RX2 16 "DecimalRegisters" "result" "LDecimalRegisters$Decimal;", Cond.fieldLink RX2 23 "DecimalRegisters$Decimal" "digits" "LDecimalRegisters$Natural;", Cond.fieldLink RX2 20 "DecimalRegisters" "one" "LDecimalRegisters$Decimal;", Cond.methodLink RX2 92 yX1_isZero, Cond.instanceMethod yX1_isZero, Cond.selects RX1 yX1_isZero yX1_isZero, Cond.initialized RX1, Cond.code yX1_isZero cX1_isZero 1 (some .boolean), Cond.fieldLink RX1 13 "DecimalRegisters$Natural" "size" "I", Cond.methodLink RX2 73 yX1_add, Cond.instanceMethod yX1_add, Cond.selects RX1 yX1_add yX1_add, Cond.code yX1_add cX1_add 8 none, Cond.methodLink RX1 38 Lib.Math.max.name, Cond.static Lib.Math.max.name, Cond.initialized "java/lang/Math", Cond.code Lib.Math.max.name Lib.Math.max.code 2 (some .int), Cond.fieldLink RX1 9 "DecimalRegisters$Natural" "limbs" "[J", Cond.constantLong RX1 26 (1000000), Cond.methodLink RX1 47 yX1_close, Cond.instanceMethod yX1_close, Cond.selects RX1 yX1_close yX1_close]
def wsX2_settle_r2 : List Cond := [Cond.code yX1_close cX1_close 4 none, Cond.methodLink RX2 127 yX1_order, Cond.instanceMethod yX1_order, Cond.selects RX1 yX1_order yX1_order, Cond.code yX1_order cX1_order 3 (some .int), Cond.methodLink RX2 162 yX2_isAwayFromZero, Cond.instanceMethod yX2_isAwayFromZero, Cond.selects RX2 yX2_isAwayFromZero yX2_isAwayFromZero, Cond.initialized RX2, Cond.code yX2_isAwayFromZero cX2_isAwayFromZero 3 (some .boolean), Cond.fieldLink RX2 52 "DecimalRegisters$Decimal" "minus" "Z", Cond.methodLink RX2 133 yX1_figure, Cond.instanceMethod yX1_figure, Cond.selects RX1 yX1_figure yX1_figure, Cond.code yX1_figure cX1_figure 3 (some .int), Cond.fieldLink RX1 42 "DecimalRegisters$Natural" "TENS" "[J", Cond.constantLong RX1 45 (10)]
def wsX2_settle : List Cond := .code yX2_settle cX2_settle 2 (some .boolean) :: ((wsX2_settle_r1 ++ wsX2_settle_r2) ++ wsX20 ++ wsX00 ++ wsX10)
def wsX2_keepQuotient_r1 : List Cond := [Cond.methodLink RX2 150 yX2_isScale, Cond.static yX2_isScale, Cond.initialized RX2, Cond.code yX2_isScale cX2_isScale 1 (some .boolean), Cond.methodLink RX2 106 yX2_split, Cond.instanceMethod yX2_split, Cond.selects RX2 yX2_split yX2_split, Cond.code yX2_split cX2_split 4 none, Cond.fieldLink RX2 34 "DecimalRegisters" "top" "LDecimalRegisters$Natural;", Cond.fieldLink RX2 37 "DecimalRegisters" "bottom" "LDecimalRegisters$Natural;", Cond.fieldLink RX2 16 "DecimalRegisters" "result" "LDecimalRegisters$Decimal;", Cond.fieldLink RX2 23 "DecimalRegisters$Decimal" "digits" "LDecimalRegisters$Natural;", Cond.fieldLink RX2 52 "DecimalRegisters$Decimal" "minus" "Z", Cond.fieldLink RX2 56 "DecimalRegisters$Decimal" "scale" "I", Cond.methodLink RX2 155 yX2_align, Cond.instanceMethod yX2_align, Cond.selects RX2 yX2_align yX2_align, Cond.code yX2_align cX2_align 5 none, Cond.methodLink RX2 153 yX1_become, Cond.instanceMethod yX1_become, Cond.selects RX1 yX1_become yX1_become, Cond.initialized RX1, Cond.code yX1_become cX1_become 2 none, Cond.fieldLink RX1 9 "DecimalRegisters$Natural" "limbs" "[J"]
def wsX2_keepQuotient_r2 : List Cond := [Cond.methodLink RX1 17 arraycopyName, Cond.native arraycopyName, Cond.static arraycopyName, Cond.initialized "java/lang/System", Cond.fieldLink RX1 13 "DecimalRegisters$Natural" "size" "I", Cond.methodLink RX2 67 yX1_raise, Cond.instanceMethod yX1_raise, Cond.selects RX1 yX1_raise yX1_raise, Cond.code yX1_raise cX1_raise 10 none, Cond.fieldLink RX1 42 "DecimalRegisters$Natural" "TENS" "[J", Cond.constantLong RX1 26 (1000000), Cond.methodLink RX1 47 yX1_close, Cond.instanceMethod yX1_close, Cond.selects RX1 yX1_close yX1_close, Cond.code yX1_close cX1_close 4 none, Cond.methodLink RX1 54 yX1_shift, Cond.instanceMethod yX1_shift, Cond.selects RX1 yX1_shift yX1_shift, Cond.code yX1_shift cX1_shift 3 none, Cond.methodLink RX2 158 yX1_takeOut, Cond.instanceMethod yX1_takeOut, Cond.selects RX1 yX1_takeOut yX1_takeOut, Cond.code yX1_takeOut cX1_takeOut 7 none, Cond.constantLong RX1 66 (-1)]
def wsX2_keepQuotient_r3 : List Cond := [Cond.methodLink RX1 23 yX1_clear, Cond.instanceMethod yX1_clear, Cond.selects RX1 yX1_clear yX1_clear, Cond.code yX1_clear cX1_clear 2 none, Cond.methodLink RX1 58 yX1_guess, Cond.instanceMethod yX1_guess, Cond.selects RX1 yX1_guess yX1_guess, Cond.code yX1_guess cX1_guess 8 (some .long), Cond.methodLink RX1 62 yX1_takeAway, Cond.instanceMethod yX1_takeAway, Cond.selects RX1 yX1_takeAway yX1_takeAway, Cond.code yX1_takeAway cX1_takeAway 10 none, Cond.methodLink RX1 68 yJ9_floorDiv_f86c9, Cond.static yJ9_floorDiv_f86c9, Cond.initialized RJ9, Cond.code yJ9_floorDiv_f86c9 cJ9_floorDiv_f86c9 6 (some .long), Cond.methodLink RX1 51 yX1_shrink, Cond.instanceMethod yX1_shrink, Cond.selects RX1 yX1_shrink yX1_shrink, Cond.code yX1_shrink cX1_shrink 1 none, Cond.methodLink RX2 121 yX2_settle, Cond.instanceMethod yX2_settle, Cond.selects RX2 yX2_settle yX2_settle, Cond.code yX2_settle cX2_settle 2 (some .boolean)]
def wsX2_keepQuotient_r4 : List Cond := [Cond.fieldLink RX2 20 "DecimalRegisters" "one" "LDecimalRegisters$Decimal;", Cond.methodLink RX2 92 yX1_isZero, Cond.instanceMethod yX1_isZero, Cond.selects RX1 yX1_isZero yX1_isZero, Cond.code yX1_isZero cX1_isZero 1 (some .boolean), Cond.methodLink RX2 73 yX1_add, Cond.instanceMethod yX1_add, Cond.selects RX1 yX1_add yX1_add, Cond.code yX1_add cX1_add 8 none, Cond.methodLink RX1 38 Lib.Math.max.name, Cond.static Lib.Math.max.name, Cond.initialized "java/lang/Math", Cond.code Lib.Math.max.name Lib.Math.max.code 2 (some .int), Cond.methodLink RX2 127 yX1_order, Cond.instanceMethod yX1_order, Cond.selects RX1 yX1_order yX1_order, Cond.code yX1_order cX1_order 3 (some .int), Cond.methodLink RX2 162 yX2_isAwayFromZero, Cond.instanceMethod yX2_isAwayFromZero, Cond.selects RX2 yX2_isAwayFromZero yX2_isAwayFromZero, Cond.code yX2_isAwayFromZero cX2_isAwayFromZero 3 (some .boolean), Cond.methodLink RX2 133 yX1_figure, Cond.instanceMethod yX1_figure, Cond.selects RX1 yX1_figure yX1_figure]
def wsX2_keepQuotient_r5 : List Cond := [Cond.code yX1_figure cX1_figure 3 (some .int), Cond.constantLong RX1 45 (10), Cond.methodLink RX2 59 yX2_keep, Cond.instanceMethod yX2_keep, Cond.selects RX2 yX2_keep yX2_keep, Cond.code yX2_keep cX2_keep 3 (some .int), Cond.fieldLink RX2 11 "DecimalRegisters" "registers" "[LDecimalRegisters$Decimal;", Cond.methodLink RX2 114 yX1_precision, Cond.instanceMethod yX1_precision, Cond.selects RX1 yX1_precision yX1_precision, Cond.code yX1_precision cX1_precision 2 (some .int), Cond.methodLink RX1 34 yX1_figure, Cond.methodLink RX2 63 yX0_become, Cond.instanceMethod yX0_become, Cond.selects RX0 yX0_become yX0_become, Cond.initialized RX0, Cond.code yX0_become cX0_become 2 none, Cond.fieldLink RX0 10 "DecimalRegisters$Decimal" "digits" "LDecimalRegisters$Natural;", Cond.fieldLink RX0 16 "DecimalRegisters$Decimal" "minus" "Z", Cond.fieldLink RX0 20 "DecimalRegisters$Decimal" "scale" "I", Cond.methodLink RX0 24 yX0_take, Cond.instanceMethod yX0_take, Cond.selects RX0 yX0_take yX0_take, Cond.code yX0_take cX0_take 4 none]
def wsX2_keepQuotient_r6 : List Cond := [Cond.methodLink RX0 28 yX1_become, Cond.methodLink RX0 32 yX1_isZero]
def wsX2_keepQuotient : List Cond := .code yX2_keepQuotient cX2_keepQuotient 6 (some .int) :: ((wsX2_keepQuotient_r1 ++ (wsX2_keepQuotient_r2 ++ (wsX2_keepQuotient_r3 ++ (wsX2_keepQuotient_r4 ++ (wsX2_keepQuotient_r5 ++ wsX2_keepQuotient_r6))))) ++ wsX20 ++ wsX00 ++ wsX10)
def wsX2_divide_r1 : List Cond := [Cond.fieldLink RX2 11 "DecimalRegisters" "registers" "[LDecimalRegisters$Decimal;", Cond.fieldLink RX2 23 "DecimalRegisters$Decimal" "digits" "LDecimalRegisters$Natural;", Cond.methodLink RX2 48 yX2_isRegister, Cond.static yX2_isRegister, Cond.initialized RX2, Cond.code yX2_isRegister cX2_isRegister 1 (some .boolean), Cond.methodLink RX2 89 yX2_isWay, Cond.static yX2_isWay, Cond.code yX2_isWay cX2_isWay 1 (some .boolean), Cond.methodLink RX2 92 yX1_isZero, Cond.instanceMethod yX1_isZero, Cond.selects RX1 yX1_isZero yX1_isZero, Cond.initialized RX1, Cond.code yX1_isZero cX1_isZero 1 (some .boolean), Cond.fieldLink RX1 13 "DecimalRegisters$Natural" "size" "I", Cond.methodLink RX2 96 yX2_keepQuotient, Cond.instanceMethod yX2_keepQuotient, Cond.selects RX2 yX2_keepQuotient yX2_keepQuotient, Cond.code yX2_keepQuotient cX2_keepQuotient 6 (some .int), Cond.methodLink RX2 150 yX2_isScale, Cond.static yX2_isScale, Cond.code yX2_isScale cX2_isScale 1 (some .boolean), Cond.methodLink RX2 106 yX2_split, Cond.instanceMethod yX2_split]
def wsX2_divide_r2 : List Cond := [Cond.selects RX2 yX2_split yX2_split, Cond.code yX2_split cX2_split 4 none, Cond.fieldLink RX2 34 "DecimalRegisters" "top" "LDecimalRegisters$Natural;", Cond.fieldLink RX2 37 "DecimalRegisters" "bottom" "LDecimalRegisters$Natural;", Cond.fieldLink RX2 16 "DecimalRegisters" "result" "LDecimalRegisters$Decimal;", Cond.fieldLink RX2 52 "DecimalRegisters$Decimal" "minus" "Z", Cond.fieldLink RX2 56 "DecimalRegisters$Decimal" "scale" "I", Cond.methodLink RX2 155 yX2_align, Cond.instanceMethod yX2_align, Cond.selects RX2 yX2_align yX2_align, Cond.code yX2_align cX2_align 5 none, Cond.methodLink RX2 153 yX1_become, Cond.instanceMethod yX1_become, Cond.selects RX1 yX1_become yX1_become, Cond.code yX1_become cX1_become 2 none, Cond.fieldLink RX1 9 "DecimalRegisters$Natural" "limbs" "[J", Cond.methodLink RX1 17 arraycopyName, Cond.native arraycopyName, Cond.static arraycopyName, Cond.initialized "java/lang/System", Cond.methodLink RX2 67 yX1_raise, Cond.instanceMethod yX1_raise, Cond.selects RX1 yX1_raise yX1_raise, Cond.code yX1_raise cX1_raise 10 none]
def wsX2_divide_r3 : List Cond := [Cond.fieldLink RX1 42 "DecimalRegisters$Natural" "TENS" "[J", Cond.constantLong RX1 26 (1000000), Cond.methodLink RX1 47 yX1_close, Cond.instanceMethod yX1_close, Cond.selects RX1 yX1_close yX1_close, Cond.code yX1_close cX1_close 4 none, Cond.methodLink RX1 54 yX1_shift, Cond.instanceMethod yX1_shift, Cond.selects RX1 yX1_shift yX1_shift, Cond.code yX1_shift cX1_shift 3 none, Cond.methodLink RX2 158 yX1_takeOut, Cond.instanceMethod yX1_takeOut, Cond.selects RX1 yX1_takeOut yX1_takeOut, Cond.code yX1_takeOut cX1_takeOut 7 none, Cond.constantLong RX1 66 (-1), Cond.methodLink RX1 23 yX1_clear, Cond.instanceMethod yX1_clear, Cond.selects RX1 yX1_clear yX1_clear, Cond.code yX1_clear cX1_clear 2 none, Cond.methodLink RX1 58 yX1_guess, Cond.instanceMethod yX1_guess, Cond.selects RX1 yX1_guess yX1_guess, Cond.code yX1_guess cX1_guess 8 (some .long), Cond.methodLink RX1 62 yX1_takeAway]
def wsX2_divide_r4 : List Cond := [Cond.instanceMethod yX1_takeAway, Cond.selects RX1 yX1_takeAway yX1_takeAway, Cond.code yX1_takeAway cX1_takeAway 10 none, Cond.methodLink RX1 68 yJ9_floorDiv_f86c9, Cond.static yJ9_floorDiv_f86c9, Cond.initialized RJ9, Cond.code yJ9_floorDiv_f86c9 cJ9_floorDiv_f86c9 6 (some .long), Cond.methodLink RX1 51 yX1_shrink, Cond.instanceMethod yX1_shrink, Cond.selects RX1 yX1_shrink yX1_shrink, Cond.code yX1_shrink cX1_shrink 1 none, Cond.methodLink RX2 121 yX2_settle, Cond.instanceMethod yX2_settle, Cond.selects RX2 yX2_settle yX2_settle, Cond.code yX2_settle cX2_settle 2 (some .boolean), Cond.fieldLink RX2 20 "DecimalRegisters" "one" "LDecimalRegisters$Decimal;", Cond.methodLink RX2 73 yX1_add, Cond.instanceMethod yX1_add, Cond.selects RX1 yX1_add yX1_add, Cond.code yX1_add cX1_add 8 none, Cond.methodLink RX1 38 Lib.Math.max.name, Cond.static Lib.Math.max.name, Cond.initialized "java/lang/Math", Cond.code Lib.Math.max.name Lib.Math.max.code 2 (some .int)]
def wsX2_divide_r5 : List Cond := [Cond.methodLink RX2 127 yX1_order, Cond.instanceMethod yX1_order, Cond.selects RX1 yX1_order yX1_order, Cond.code yX1_order cX1_order 3 (some .int), Cond.methodLink RX2 162 yX2_isAwayFromZero, Cond.instanceMethod yX2_isAwayFromZero, Cond.selects RX2 yX2_isAwayFromZero yX2_isAwayFromZero, Cond.code yX2_isAwayFromZero cX2_isAwayFromZero 3 (some .boolean), Cond.methodLink RX2 133 yX1_figure, Cond.instanceMethod yX1_figure, Cond.selects RX1 yX1_figure yX1_figure, Cond.code yX1_figure cX1_figure 3 (some .int), Cond.constantLong RX1 45 (10), Cond.methodLink RX2 59 yX2_keep, Cond.instanceMethod yX2_keep, Cond.selects RX2 yX2_keep yX2_keep, Cond.code yX2_keep cX2_keep 3 (some .int), Cond.methodLink RX2 114 yX1_precision, Cond.instanceMethod yX1_precision, Cond.selects RX1 yX1_precision yX1_precision, Cond.code yX1_precision cX1_precision 2 (some .int), Cond.methodLink RX1 34 yX1_figure, Cond.methodLink RX2 63 yX0_become, Cond.instanceMethod yX0_become]
def wsX2_divide_r6 : List Cond := [Cond.selects RX0 yX0_become yX0_become, Cond.initialized RX0, Cond.code yX0_become cX0_become 2 none, Cond.fieldLink RX0 10 "DecimalRegisters$Decimal" "digits" "LDecimalRegisters$Natural;", Cond.fieldLink RX0 16 "DecimalRegisters$Decimal" "minus" "Z", Cond.fieldLink RX0 20 "DecimalRegisters$Decimal" "scale" "I", Cond.methodLink RX0 24 yX0_take, Cond.instanceMethod yX0_take, Cond.selects RX0 yX0_take yX0_take, Cond.code yX0_take cX0_take 4 none, Cond.methodLink RX0 28 yX1_become, Cond.methodLink RX0 32 yX1_isZero]
def wsX2_divide : List Cond := .code yX2_divide cX2_divide 6 (some .int) :: ((wsX2_divide_r1 ++ (wsX2_divide_r2 ++ (wsX2_divide_r3 ++ (wsX2_divide_r4 ++ (wsX2_divide_r5 ++ wsX2_divide_r6))))) ++ wsX20 ++ wsX00 ++ wsX10)
def wsX2_part_r1 : List Cond := [Cond.fieldLink RX2 11 "DecimalRegisters" "registers" "[LDecimalRegisters$Decimal;", Cond.fieldLink RX2 23 "DecimalRegisters$Decimal" "digits" "LDecimalRegisters$Natural;", Cond.fieldLink RX2 52 "DecimalRegisters$Decimal" "minus" "Z", Cond.fieldLink RX2 56 "DecimalRegisters$Decimal" "scale" "I", Cond.methodLink RX2 100 Lib.Math.max.name, Cond.static Lib.Math.max.name, Cond.initialized "java/lang/Math", Cond.code Lib.Math.max.name Lib.Math.max.code 2 (some .int), Cond.fieldLink RX2 34 "DecimalRegisters" "top" "LDecimalRegisters$Natural;", Cond.methodLink RX2 48 yX2_isRegister, Cond.static yX2_isRegister, Cond.initialized RX2, Cond.code yX2_isRegister cX2_isRegister 1 (some .boolean), Cond.methodLink RX2 92 yX1_isZero, Cond.instanceMethod yX1_isZero, Cond.selects RX1 yX1_isZero yX1_isZero, Cond.initialized RX1, Cond.code yX1_isZero cX1_isZero 1 (some .boolean), Cond.fieldLink RX1 13 "DecimalRegisters$Natural" "size" "I", Cond.methodLink RX2 106 yX2_split, Cond.instanceMethod yX2_split, Cond.selects RX2 yX2_split yX2_split, Cond.code yX2_split cX2_split 4 none, Cond.fieldLink RX2 37 "DecimalRegisters" "bottom" "LDecimalRegisters$Natural;"]
def wsX2_part_r2 : List Cond := [Cond.fieldLink RX2 16 "DecimalRegisters" "result" "LDecimalRegisters$Decimal;", Cond.methodLink RX2 155 yX2_align, Cond.instanceMethod yX2_align, Cond.selects RX2 yX2_align yX2_align, Cond.code yX2_align cX2_align 5 none, Cond.methodLink RX2 153 yX1_become, Cond.instanceMethod yX1_become, Cond.selects RX1 yX1_become yX1_become, Cond.code yX1_become cX1_become 2 none, Cond.fieldLink RX1 9 "DecimalRegisters$Natural" "limbs" "[J", Cond.methodLink RX1 17 arraycopyName, Cond.native arraycopyName, Cond.static arraycopyName, Cond.initialized "java/lang/System", Cond.methodLink RX2 67 yX1_raise, Cond.instanceMethod yX1_raise, Cond.selects RX1 yX1_raise yX1_raise, Cond.code yX1_raise cX1_raise 10 none, Cond.fieldLink RX1 42 "DecimalRegisters$Natural" "TENS" "[J", Cond.constantLong RX1 26 (1000000), Cond.methodLink RX1 47 yX1_close, Cond.instanceMethod yX1_close, Cond.selects RX1 yX1_close yX1_close, Cond.code yX1_close cX1_close 4 none]
def wsX2_part_r3 : List Cond := [Cond.methodLink RX1 54 yX1_shift, Cond.instanceMethod yX1_shift, Cond.selects RX1 yX1_shift yX1_shift, Cond.code yX1_shift cX1_shift 3 none, Cond.methodLink RX2 158 yX1_takeOut, Cond.instanceMethod yX1_takeOut, Cond.selects RX1 yX1_takeOut yX1_takeOut, Cond.code yX1_takeOut cX1_takeOut 7 none, Cond.constantLong RX1 66 (-1), Cond.methodLink RX1 23 yX1_clear, Cond.instanceMethod yX1_clear, Cond.selects RX1 yX1_clear yX1_clear, Cond.code yX1_clear cX1_clear 2 none, Cond.methodLink RX1 58 yX1_guess, Cond.instanceMethod yX1_guess, Cond.selects RX1 yX1_guess yX1_guess, Cond.code yX1_guess cX1_guess 8 (some .long), Cond.methodLink RX1 62 yX1_takeAway, Cond.instanceMethod yX1_takeAway, Cond.selects RX1 yX1_takeAway yX1_takeAway, Cond.code yX1_takeAway cX1_takeAway 10 none, Cond.methodLink RX1 68 yJ9_floorDiv_f86c9, Cond.static yJ9_floorDiv_f86c9, Cond.initialized RJ9]
def wsX2_part_r4 : List Cond := [Cond.code yJ9_floorDiv_f86c9 cJ9_floorDiv_f86c9 6 (some .long), Cond.methodLink RX1 51 yX1_shrink, Cond.instanceMethod yX1_shrink, Cond.selects RX1 yX1_shrink yX1_shrink, Cond.code yX1_shrink cX1_shrink 1 none, Cond.methodLink RX2 59 yX2_keep, Cond.instanceMethod yX2_keep, Cond.selects RX2 yX2_keep yX2_keep, Cond.code yX2_keep cX2_keep 3 (some .int), Cond.methodLink RX2 114 yX1_precision, Cond.instanceMethod yX1_precision, Cond.selects RX1 yX1_precision yX1_precision, Cond.code yX1_precision cX1_precision 2 (some .int), Cond.methodLink RX1 38 Lib.Math.max.name, Cond.methodLink RX1 34 yX1_figure, Cond.instanceMethod yX1_figure, Cond.selects RX1 yX1_figure yX1_figure, Cond.code yX1_figure cX1_figure 3 (some .int), Cond.constantLong RX1 45 (10), Cond.methodLink RX2 150 yX2_isScale, Cond.static yX2_isScale, Cond.code yX2_isScale cX2_isScale 1 (some .boolean), Cond.methodLink RX2 63 yX0_become, Cond.instanceMethod yX0_become]
def wsX2_part_r5 : List Cond := [Cond.selects RX0 yX0_become yX0_become, Cond.initialized RX0, Cond.code yX0_become cX0_become 2 none, Cond.fieldLink RX0 10 "DecimalRegisters$Decimal" "digits" "LDecimalRegisters$Natural;", Cond.fieldLink RX0 16 "DecimalRegisters$Decimal" "minus" "Z", Cond.fieldLink RX0 20 "DecimalRegisters$Decimal" "scale" "I", Cond.methodLink RX0 24 yX0_take, Cond.instanceMethod yX0_take, Cond.selects RX0 yX0_take yX0_take, Cond.code yX0_take cX0_take 4 none, Cond.methodLink RX0 28 yX1_become, Cond.methodLink RX0 32 yX1_isZero, Cond.methodLink RX2 110 yX0_take]
def wsX2_part : List Cond := .code yX2_part cX2_part 10 (some .int) :: ((wsX2_part_r1 ++ (wsX2_part_r2 ++ (wsX2_part_r3 ++ (wsX2_part_r4 ++ wsX2_part_r5)))) ++ wsX20 ++ wsX00 ++ wsX10)
def wsX2_scale_r1 : List Cond := [Cond.fieldLink RX2 11 "DecimalRegisters" "registers" "[LDecimalRegisters$Decimal;", Cond.fieldLink RX2 20 "DecimalRegisters" "one" "LDecimalRegisters$Decimal;", Cond.methodLink RX2 48 yX2_isRegister, Cond.static yX2_isRegister, Cond.initialized RX2, Cond.code yX2_isRegister cX2_isRegister 1 (some .boolean), Cond.methodLink RX2 89 yX2_isWay, Cond.static yX2_isWay, Cond.code yX2_isWay cX2_isWay 1 (some .boolean), Cond.methodLink RX2 96 yX2_keepQuotient, Cond.instanceMethod yX2_keepQuotient, Cond.selects RX2 yX2_keepQuotient yX2_keepQuotient, Cond.code yX2_keepQuotient cX2_keepQuotient 6 (some .int), Cond.methodLink RX2 150 yX2_isScale, Cond.static yX2_isScale, Cond.code yX2_isScale cX2_isScale 1 (some .boolean), Cond.methodLink RX2 106 yX2_split, Cond.instanceMethod yX2_split, Cond.selects RX2 yX2_split yX2_split, Cond.code yX2_split cX2_split 4 none, Cond.fieldLink RX2 34 "DecimalRegisters" "top" "LDecimalRegisters$Natural;", Cond.fieldLink RX2 37 "DecimalRegisters" "bottom" "LDecimalRegisters$Natural;", Cond.fieldLink RX2 16 "DecimalRegisters" "result" "LDecimalRegisters$Decimal;", Cond.fieldLink RX2 23 "DecimalRegisters$Decimal" "digits" "LDecimalRegisters$Natural;"]
def wsX2_scale_r2 : List Cond := [Cond.fieldLink RX2 52 "DecimalRegisters$Decimal" "minus" "Z", Cond.fieldLink RX2 56 "DecimalRegisters$Decimal" "scale" "I", Cond.methodLink RX2 155 yX2_align, Cond.instanceMethod yX2_align, Cond.selects RX2 yX2_align yX2_align, Cond.code yX2_align cX2_align 5 none, Cond.methodLink RX2 153 yX1_become, Cond.instanceMethod yX1_become, Cond.selects RX1 yX1_become yX1_become, Cond.initialized RX1, Cond.code yX1_become cX1_become 2 none, Cond.fieldLink RX1 9 "DecimalRegisters$Natural" "limbs" "[J", Cond.methodLink RX1 17 arraycopyName, Cond.native arraycopyName, Cond.static arraycopyName, Cond.initialized "java/lang/System", Cond.fieldLink RX1 13 "DecimalRegisters$Natural" "size" "I", Cond.methodLink RX2 67 yX1_raise, Cond.instanceMethod yX1_raise, Cond.selects RX1 yX1_raise yX1_raise, Cond.code yX1_raise cX1_raise 10 none, Cond.fieldLink RX1 42 "DecimalRegisters$Natural" "TENS" "[J", Cond.constantLong RX1 26 (1000000), Cond.methodLink RX1 47 yX1_close]
def wsX2_scale_r3 : List Cond := [Cond.instanceMethod yX1_close, Cond.selects RX1 yX1_close yX1_close, Cond.code yX1_close cX1_close 4 none, Cond.methodLink RX1 54 yX1_shift, Cond.instanceMethod yX1_shift, Cond.selects RX1 yX1_shift yX1_shift, Cond.code yX1_shift cX1_shift 3 none, Cond.methodLink RX2 158 yX1_takeOut, Cond.instanceMethod yX1_takeOut, Cond.selects RX1 yX1_takeOut yX1_takeOut, Cond.code yX1_takeOut cX1_takeOut 7 none, Cond.constantLong RX1 66 (-1), Cond.methodLink RX1 23 yX1_clear, Cond.instanceMethod yX1_clear, Cond.selects RX1 yX1_clear yX1_clear, Cond.code yX1_clear cX1_clear 2 none, Cond.methodLink RX1 58 yX1_guess, Cond.instanceMethod yX1_guess, Cond.selects RX1 yX1_guess yX1_guess, Cond.code yX1_guess cX1_guess 8 (some .long), Cond.methodLink RX1 62 yX1_takeAway, Cond.instanceMethod yX1_takeAway, Cond.selects RX1 yX1_takeAway yX1_takeAway, Cond.code yX1_takeAway cX1_takeAway 10 none]
def wsX2_scale_r4 : List Cond := [Cond.methodLink RX1 68 yJ9_floorDiv_f86c9, Cond.static yJ9_floorDiv_f86c9, Cond.initialized RJ9, Cond.code yJ9_floorDiv_f86c9 cJ9_floorDiv_f86c9 6 (some .long), Cond.methodLink RX1 51 yX1_shrink, Cond.instanceMethod yX1_shrink, Cond.selects RX1 yX1_shrink yX1_shrink, Cond.code yX1_shrink cX1_shrink 1 none, Cond.methodLink RX2 121 yX2_settle, Cond.instanceMethod yX2_settle, Cond.selects RX2 yX2_settle yX2_settle, Cond.code yX2_settle cX2_settle 2 (some .boolean), Cond.methodLink RX2 92 yX1_isZero, Cond.instanceMethod yX1_isZero, Cond.selects RX1 yX1_isZero yX1_isZero, Cond.code yX1_isZero cX1_isZero 1 (some .boolean), Cond.methodLink RX2 73 yX1_add, Cond.instanceMethod yX1_add, Cond.selects RX1 yX1_add yX1_add, Cond.code yX1_add cX1_add 8 none, Cond.methodLink RX1 38 Lib.Math.max.name, Cond.static Lib.Math.max.name, Cond.initialized "java/lang/Math", Cond.code Lib.Math.max.name Lib.Math.max.code 2 (some .int)]
def wsX2_scale_r5 : List Cond := [Cond.methodLink RX2 127 yX1_order, Cond.instanceMethod yX1_order, Cond.selects RX1 yX1_order yX1_order, Cond.code yX1_order cX1_order 3 (some .int), Cond.methodLink RX2 162 yX2_isAwayFromZero, Cond.instanceMethod yX2_isAwayFromZero, Cond.selects RX2 yX2_isAwayFromZero yX2_isAwayFromZero, Cond.code yX2_isAwayFromZero cX2_isAwayFromZero 3 (some .boolean), Cond.methodLink RX2 133 yX1_figure, Cond.instanceMethod yX1_figure, Cond.selects RX1 yX1_figure yX1_figure, Cond.code yX1_figure cX1_figure 3 (some .int), Cond.constantLong RX1 45 (10), Cond.methodLink RX2 59 yX2_keep, Cond.instanceMethod yX2_keep, Cond.selects RX2 yX2_keep yX2_keep, Cond.code yX2_keep cX2_keep 3 (some .int), Cond.methodLink RX2 114 yX1_precision, Cond.instanceMethod yX1_precision, Cond.selects RX1 yX1_precision yX1_precision, Cond.code yX1_precision cX1_precision 2 (some .int), Cond.methodLink RX1 34 yX1_figure, Cond.methodLink RX2 63 yX0_become, Cond.instanceMethod yX0_become]
def wsX2_scale_r6 : List Cond := [Cond.selects RX0 yX0_become yX0_become, Cond.initialized RX0, Cond.code yX0_become cX0_become 2 none, Cond.fieldLink RX0 10 "DecimalRegisters$Decimal" "digits" "LDecimalRegisters$Natural;", Cond.fieldLink RX0 16 "DecimalRegisters$Decimal" "minus" "Z", Cond.fieldLink RX0 20 "DecimalRegisters$Decimal" "scale" "I", Cond.methodLink RX0 24 yX0_take, Cond.instanceMethod yX0_take, Cond.selects RX0 yX0_take yX0_take, Cond.code yX0_take cX0_take 4 none, Cond.methodLink RX0 28 yX1_become, Cond.methodLink RX0 32 yX1_isZero]
def wsX2_scale : List Cond := .code yX2_scale cX2_scale 5 (some .int) :: ((wsX2_scale_r1 ++ (wsX2_scale_r2 ++ (wsX2_scale_r3 ++ (wsX2_scale_r4 ++ (wsX2_scale_r5 ++ wsX2_scale_r6))))) ++ wsX20 ++ wsX00 ++ wsX10)
def wsX2_cutOff_r1 : List Cond := [Cond.fieldLink RX2 16 "DecimalRegisters" "result" "LDecimalRegisters$Decimal;", Cond.fieldLink RX2 20 "DecimalRegisters" "one" "LDecimalRegisters$Decimal;", Cond.fieldLink RX2 56 "DecimalRegisters$Decimal" "scale" "I", Cond.methodLink RX2 106 yX2_split, Cond.instanceMethod yX2_split, Cond.selects RX2 yX2_split yX2_split, Cond.initialized RX2, Cond.code yX2_split cX2_split 4 none, Cond.fieldLink RX2 34 "DecimalRegisters" "top" "LDecimalRegisters$Natural;", Cond.fieldLink RX2 37 "DecimalRegisters" "bottom" "LDecimalRegisters$Natural;", Cond.fieldLink RX2 23 "DecimalRegisters$Decimal" "digits" "LDecimalRegisters$Natural;", Cond.fieldLink RX2 52 "DecimalRegisters$Decimal" "minus" "Z", Cond.methodLink RX2 155 yX2_align, Cond.instanceMethod yX2_align, Cond.selects RX2 yX2_align yX2_align, Cond.code yX2_align cX2_align 5 none, Cond.methodLink RX2 153 yX1_become, Cond.instanceMethod yX1_become, Cond.selects RX1 yX1_become yX1_become, Cond.initialized RX1, Cond.code yX1_become cX1_become 2 none, Cond.fieldLink RX1 9 "DecimalRegisters$Natural" "limbs" "[J", Cond.methodLink RX1 17 arraycopyName, Cond.native arraycopyName]
def wsX2_cutOff_r2 : List Cond := [Cond.static arraycopyName, Cond.initialized "java/lang/System", Cond.fieldLink RX1 13 "DecimalRegisters$Natural" "size" "I", Cond.methodLink RX2 67 yX1_raise, Cond.instanceMethod yX1_raise, Cond.selects RX1 yX1_raise yX1_raise, Cond.code yX1_raise cX1_raise 10 none, Cond.fieldLink RX1 42 "DecimalRegisters$Natural" "TENS" "[J", Cond.constantLong RX1 26 (1000000), Cond.methodLink RX1 47 yX1_close, Cond.instanceMethod yX1_close, Cond.selects RX1 yX1_close yX1_close, Cond.code yX1_close cX1_close 4 none, Cond.methodLink RX1 54 yX1_shift, Cond.instanceMethod yX1_shift, Cond.selects RX1 yX1_shift yX1_shift, Cond.code yX1_shift cX1_shift 3 none, Cond.methodLink RX2 158 yX1_takeOut, Cond.instanceMethod yX1_takeOut, Cond.selects RX1 yX1_takeOut yX1_takeOut, Cond.code yX1_takeOut cX1_takeOut 7 none, Cond.constantLong RX1 66 (-1), Cond.methodLink RX1 23 yX1_clear, Cond.instanceMethod yX1_clear]
def wsX2_cutOff_r3 : List Cond := [Cond.selects RX1 yX1_clear yX1_clear, Cond.code yX1_clear cX1_clear 2 none, Cond.methodLink RX1 58 yX1_guess, Cond.instanceMethod yX1_guess, Cond.selects RX1 yX1_guess yX1_guess, Cond.code yX1_guess cX1_guess 8 (some .long), Cond.methodLink RX1 62 yX1_takeAway, Cond.instanceMethod yX1_takeAway, Cond.selects RX1 yX1_takeAway yX1_takeAway, Cond.code yX1_takeAway cX1_takeAway 10 none, Cond.methodLink RX1 68 yJ9_floorDiv_f86c9, Cond.static yJ9_floorDiv_f86c9, Cond.initialized RJ9, Cond.code yJ9_floorDiv_f86c9 cJ9_floorDiv_f86c9 6 (some .long), Cond.methodLink RX1 51 yX1_shrink, Cond.instanceMethod yX1_shrink, Cond.selects RX1 yX1_shrink yX1_shrink, Cond.code yX1_shrink cX1_shrink 1 none]
def wsX2_cutOff : List Cond := .code yX2_cutOff cX2_cutOff 2 none :: ((wsX2_cutOff_r1 ++ (wsX2_cutOff_r2 ++ wsX2_cutOff_r3)) ++ wsX20 ++ wsX00 ++ wsX10)
def wsX2_round_r1 : List Cond := [Cond.fieldLink RX2 11 "DecimalRegisters" "registers" "[LDecimalRegisters$Decimal;", Cond.fieldLink RX2 23 "DecimalRegisters$Decimal" "digits" "LDecimalRegisters$Natural;", Cond.fieldLink RX2 16 "DecimalRegisters" "result" "LDecimalRegisters$Decimal;", Cond.methodLink RX2 48 yX2_isRegister, Cond.static yX2_isRegister, Cond.initialized RX2, Cond.code yX2_isRegister cX2_isRegister 1 (some .boolean), Cond.methodLink RX2 89 yX2_isWay, Cond.static yX2_isWay, Cond.code yX2_isWay cX2_isWay 1 (some .boolean), Cond.methodLink RX2 114 yX1_precision, Cond.instanceMethod yX1_precision, Cond.selects RX1 yX1_precision yX1_precision, Cond.initialized RX1, Cond.code yX1_precision cX1_precision 2 (some .int), Cond.fieldLink RX1 13 "DecimalRegisters$Natural" "size" "I", Cond.methodLink RX1 38 Lib.Math.max.name, Cond.static Lib.Math.max.name, Cond.initialized "java/lang/Math", Cond.code Lib.Math.max.name Lib.Math.max.code 2 (some .int), Cond.methodLink RX1 34 yX1_figure, Cond.instanceMethod yX1_figure, Cond.selects RX1 yX1_figure yX1_figure, Cond.code yX1_figure cX1_figure 3 (some .int)]
def wsX2_round_r2 : List Cond := [Cond.fieldLink RX1 9 "DecimalRegisters$Natural" "limbs" "[J", Cond.fieldLink RX1 42 "DecimalRegisters$Natural" "TENS" "[J", Cond.constantLong RX1 45 (10), Cond.methodLink RX2 63 yX0_become, Cond.instanceMethod yX0_become, Cond.selects RX0 yX0_become yX0_become, Cond.initialized RX0, Cond.code yX0_become cX0_become 2 none, Cond.fieldLink RX0 10 "DecimalRegisters$Decimal" "digits" "LDecimalRegisters$Natural;", Cond.fieldLink RX0 16 "DecimalRegisters$Decimal" "minus" "Z", Cond.fieldLink RX0 20 "DecimalRegisters$Decimal" "scale" "I", Cond.methodLink RX0 24 yX0_take, Cond.instanceMethod yX0_take, Cond.selects RX0 yX0_take yX0_take, Cond.code yX0_take cX0_take 4 none, Cond.methodLink RX0 28 yX1_become, Cond.instanceMethod yX1_become, Cond.selects RX1 yX1_become yX1_become, Cond.code yX1_become cX1_become 2 none, Cond.methodLink RX1 17 arraycopyName, Cond.native arraycopyName, Cond.static arraycopyName, Cond.initialized "java/lang/System", Cond.methodLink RX0 32 yX1_isZero]
def wsX2_round_r3 : List Cond := [Cond.instanceMethod yX1_isZero, Cond.selects RX1 yX1_isZero yX1_isZero, Cond.code yX1_isZero cX1_isZero 1 (some .boolean), Cond.methodLink RX2 118 yX2_cutOff, Cond.instanceMethod yX2_cutOff, Cond.selects RX2 yX2_cutOff yX2_cutOff, Cond.code yX2_cutOff cX2_cutOff 2 none, Cond.fieldLink RX2 20 "DecimalRegisters" "one" "LDecimalRegisters$Decimal;", Cond.fieldLink RX2 56 "DecimalRegisters$Decimal" "scale" "I", Cond.methodLink RX2 106 yX2_split, Cond.instanceMethod yX2_split, Cond.selects RX2 yX2_split yX2_split, Cond.code yX2_split cX2_split 4 none, Cond.fieldLink RX2 34 "DecimalRegisters" "top" "LDecimalRegisters$Natural;", Cond.fieldLink RX2 37 "DecimalRegisters" "bottom" "LDecimalRegisters$Natural;", Cond.fieldLink RX2 52 "DecimalRegisters$Decimal" "minus" "Z", Cond.methodLink RX2 155 yX2_align, Cond.instanceMethod yX2_align, Cond.selects RX2 yX2_align yX2_align, Cond.code yX2_align cX2_align 5 none, Cond.methodLink RX2 153 yX1_become, Cond.methodLink RX2 67 yX1_raise, Cond.instanceMethod yX1_raise, Cond.selects RX1 yX1_raise yX1_raise]
def wsX2_round_r4 : List Cond := [Cond.code yX1_raise cX1_raise 10 none, Cond.constantLong RX1 26 (1000000), Cond.methodLink RX1 47 yX1_close, Cond.instanceMethod yX1_close, Cond.selects RX1 yX1_close yX1_close, Cond.code yX1_close cX1_close 4 none, Cond.methodLink RX1 54 yX1_shift, Cond.instanceMethod yX1_shift, Cond.selects RX1 yX1_shift yX1_shift, Cond.code yX1_shift cX1_shift 3 none, Cond.methodLink RX2 158 yX1_takeOut, Cond.instanceMethod yX1_takeOut, Cond.selects RX1 yX1_takeOut yX1_takeOut, Cond.code yX1_takeOut cX1_takeOut 7 none, Cond.constantLong RX1 66 (-1), Cond.methodLink RX1 23 yX1_clear, Cond.instanceMethod yX1_clear, Cond.selects RX1 yX1_clear yX1_clear, Cond.code yX1_clear cX1_clear 2 none, Cond.methodLink RX1 58 yX1_guess, Cond.instanceMethod yX1_guess, Cond.selects RX1 yX1_guess yX1_guess, Cond.code yX1_guess cX1_guess 8 (some .long), Cond.methodLink RX1 62 yX1_takeAway]
def wsX2_round_r5 : List Cond := [Cond.instanceMethod yX1_takeAway, Cond.selects RX1 yX1_takeAway yX1_takeAway, Cond.code yX1_takeAway cX1_takeAway 10 none, Cond.methodLink RX1 68 yJ9_floorDiv_f86c9, Cond.static yJ9_floorDiv_f86c9, Cond.initialized RJ9, Cond.code yJ9_floorDiv_f86c9 cJ9_floorDiv_f86c9 6 (some .long), Cond.methodLink RX1 51 yX1_shrink, Cond.instanceMethod yX1_shrink, Cond.selects RX1 yX1_shrink yX1_shrink, Cond.code yX1_shrink cX1_shrink 1 none, Cond.methodLink RX2 121 yX2_settle, Cond.instanceMethod yX2_settle, Cond.selects RX2 yX2_settle yX2_settle, Cond.code yX2_settle cX2_settle 2 (some .boolean), Cond.methodLink RX2 92 yX1_isZero, Cond.methodLink RX2 73 yX1_add, Cond.instanceMethod yX1_add, Cond.selects RX1 yX1_add yX1_add, Cond.code yX1_add cX1_add 8 none, Cond.methodLink RX2 127 yX1_order, Cond.instanceMethod yX1_order, Cond.selects RX1 yX1_order yX1_order, Cond.code yX1_order cX1_order 3 (some .int)]
def wsX2_round_r6 : List Cond := [Cond.methodLink RX2 162 yX2_isAwayFromZero, Cond.instanceMethod yX2_isAwayFromZero, Cond.selects RX2 yX2_isAwayFromZero yX2_isAwayFromZero, Cond.code yX2_isAwayFromZero cX2_isAwayFromZero 3 (some .boolean), Cond.methodLink RX2 133 yX1_figure, Cond.methodLink RX2 59 yX2_keep, Cond.instanceMethod yX2_keep, Cond.selects RX2 yX2_keep yX2_keep, Cond.code yX2_keep cX2_keep 3 (some .int), Cond.methodLink RX2 150 yX2_isScale, Cond.static yX2_isScale, Cond.code yX2_isScale cX2_isScale 1 (some .boolean)]
def wsX2_round : List Cond := .code yX2_round cX2_round 7 (some .int) :: ((wsX2_round_r1 ++ (wsX2_round_r2 ++ (wsX2_round_r3 ++ (wsX2_round_r4 ++ (wsX2_round_r5 ++ wsX2_round_r6))))) ++ wsX20 ++ wsX00 ++ wsX10)
def wsX2_cutOffZeros_r1 : List Cond := [Cond.fieldLink RX2 16 "DecimalRegisters" "result" "LDecimalRegisters$Decimal;", Cond.fieldLink RX2 23 "DecimalRegisters$Decimal" "digits" "LDecimalRegisters$Natural;", Cond.fieldLink RX2 56 "DecimalRegisters$Decimal" "scale" "I", Cond.methodLink RX2 92 yX1_isZero, Cond.instanceMethod yX1_isZero, Cond.selects RX1 yX1_isZero yX1_isZero, Cond.initialized RX1, Cond.code yX1_isZero cX1_isZero 1 (some .boolean), Cond.fieldLink RX1 13 "DecimalRegisters$Natural" "size" "I", Cond.methodLink RX2 166 yX1_zerosAtEnd, Cond.instanceMethod yX1_zerosAtEnd, Cond.selects RX1 yX1_zerosAtEnd yX1_zerosAtEnd, Cond.code yX1_zerosAtEnd cX1_zerosAtEnd 3 (some .int), Cond.methodLink RX1 34 yX1_figure, Cond.instanceMethod yX1_figure, Cond.selects RX1 yX1_figure yX1_figure, Cond.code yX1_figure cX1_figure 3 (some .int), Cond.fieldLink RX1 9 "DecimalRegisters$Natural" "limbs" "[J", Cond.fieldLink RX1 42 "DecimalRegisters$Natural" "TENS" "[J", Cond.constantLong RX1 45 (10), Cond.methodLink RX2 118 yX2_cutOff, Cond.instanceMethod yX2_cutOff, Cond.selects RX2 yX2_cutOff yX2_cutOff, Cond.initialized RX2]
def wsX2_cutOffZeros_r2 : List Cond := [Cond.code yX2_cutOff cX2_cutOff 2 none, Cond.fieldLink RX2 20 "DecimalRegisters" "one" "LDecimalRegisters$Decimal;", Cond.methodLink RX2 106 yX2_split, Cond.instanceMethod yX2_split, Cond.selects RX2 yX2_split yX2_split, Cond.code yX2_split cX2_split 4 none, Cond.fieldLink RX2 34 "DecimalRegisters" "top" "LDecimalRegisters$Natural;", Cond.fieldLink RX2 37 "DecimalRegisters" "bottom" "LDecimalRegisters$Natural;", Cond.fieldLink RX2 52 "DecimalRegisters$Decimal" "minus" "Z", Cond.methodLink RX2 155 yX2_align, Cond.instanceMethod yX2_align, Cond.selects RX2 yX2_align yX2_align, Cond.code yX2_align cX2_align 5 none, Cond.methodLink RX2 153 yX1_become, Cond.instanceMethod yX1_become, Cond.selects RX1 yX1_become yX1_become, Cond.code yX1_become cX1_become 2 none, Cond.methodLink RX1 17 arraycopyName, Cond.native arraycopyName, Cond.static arraycopyName, Cond.initialized "java/lang/System", Cond.methodLink RX2 67 yX1_raise, Cond.instanceMethod yX1_raise, Cond.selects RX1 yX1_raise yX1_raise]
def wsX2_cutOffZeros_r3 : List Cond := [Cond.code yX1_raise cX1_raise 10 none, Cond.constantLong RX1 26 (1000000), Cond.methodLink RX1 47 yX1_close, Cond.instanceMethod yX1_close, Cond.selects RX1 yX1_close yX1_close, Cond.code yX1_close cX1_close 4 none, Cond.methodLink RX1 54 yX1_shift, Cond.instanceMethod yX1_shift, Cond.selects RX1 yX1_shift yX1_shift, Cond.code yX1_shift cX1_shift 3 none, Cond.methodLink RX2 158 yX1_takeOut, Cond.instanceMethod yX1_takeOut, Cond.selects RX1 yX1_takeOut yX1_takeOut, Cond.code yX1_takeOut cX1_takeOut 7 none, Cond.constantLong RX1 66 (-1), Cond.methodLink RX1 23 yX1_clear, Cond.instanceMethod yX1_clear, Cond.selects RX1 yX1_clear yX1_clear, Cond.code yX1_clear cX1_clear 2 none, Cond.methodLink RX1 58 yX1_guess, Cond.instanceMethod yX1_guess, Cond.selects RX1 yX1_guess yX1_guess, Cond.code yX1_guess cX1_guess 8 (some .long), Cond.methodLink RX1 62 yX1_takeAway]
def wsX2_cutOffZeros_r4 : List Cond := [Cond.instanceMethod yX1_takeAway, Cond.selects RX1 yX1_takeAway yX1_takeAway, Cond.code yX1_takeAway cX1_takeAway 10 none, Cond.methodLink RX1 68 yJ9_floorDiv_f86c9, Cond.static yJ9_floorDiv_f86c9, Cond.initialized RJ9, Cond.code yJ9_floorDiv_f86c9 cJ9_floorDiv_f86c9 6 (some .long), Cond.methodLink RX1 51 yX1_shrink, Cond.instanceMethod yX1_shrink, Cond.selects RX1 yX1_shrink yX1_shrink, Cond.code yX1_shrink cX1_shrink 1 none]
def wsX2_cutOffZeros : List Cond := .code yX2_cutOffZeros cX2_cutOffZeros 1 none :: ((wsX2_cutOffZeros_r1 ++ (wsX2_cutOffZeros_r2 ++ (wsX2_cutOffZeros_r3 ++ wsX2_cutOffZeros_r4))) ++ wsX20 ++ wsX00 ++ wsX10)
def wsX2_turn_r1 : List Cond := [Cond.fieldLink RX2 16 "DecimalRegisters" "result" "LDecimalRegisters$Decimal;", Cond.fieldLink RX2 11 "DecimalRegisters" "registers" "[LDecimalRegisters$Decimal;", Cond.fieldLink RX2 52 "DecimalRegisters$Decimal" "minus" "Z", Cond.methodLink RX2 48 yX2_isRegister, Cond.static yX2_isRegister, Cond.initialized RX2, Cond.code yX2_isRegister cX2_isRegister 1 (some .boolean), Cond.methodLink RX2 63 yX0_become, Cond.instanceMethod yX0_become, Cond.selects RX0 yX0_become yX0_become, Cond.initialized RX0, Cond.code yX0_become cX0_become 2 none, Cond.fieldLink RX0 10 "DecimalRegisters$Decimal" "digits" "LDecimalRegisters$Natural;", Cond.fieldLink RX0 16 "DecimalRegisters$Decimal" "minus" "Z", Cond.fieldLink RX0 20 "DecimalRegisters$Decimal" "scale" "I", Cond.methodLink RX0 24 yX0_take, Cond.instanceMethod yX0_take, Cond.selects RX0 yX0_take yX0_take, Cond.code yX0_take cX0_take 4 none, Cond.methodLink RX0 28 yX1_become, Cond.instanceMethod yX1_become, Cond.selects RX1 yX1_become yX1_become, Cond.initialized RX1, Cond.code yX1_become cX1_become 2 none]
def wsX2_turn_r2 : List Cond := [Cond.fieldLink RX1 9 "DecimalRegisters$Natural" "limbs" "[J", Cond.methodLink RX1 17 arraycopyName, Cond.native arraycopyName, Cond.static arraycopyName, Cond.initialized "java/lang/System", Cond.fieldLink RX1 13 "DecimalRegisters$Natural" "size" "I", Cond.methodLink RX0 32 yX1_isZero, Cond.instanceMethod yX1_isZero, Cond.selects RX1 yX1_isZero yX1_isZero, Cond.code yX1_isZero cX1_isZero 1 (some .boolean), Cond.methodLink RX2 124 yX2_cutOffZeros, Cond.instanceMethod yX2_cutOffZeros, Cond.selects RX2 yX2_cutOffZeros yX2_cutOffZeros, Cond.code yX2_cutOffZeros cX2_cutOffZeros 1 none, Cond.fieldLink RX2 23 "DecimalRegisters$Decimal" "digits" "LDecimalRegisters$Natural;", Cond.fieldLink RX2 56 "DecimalRegisters$Decimal" "scale" "I", Cond.methodLink RX2 92 yX1_isZero, Cond.methodLink RX2 166 yX1_zerosAtEnd, Cond.instanceMethod yX1_zerosAtEnd, Cond.selects RX1 yX1_zerosAtEnd yX1_zerosAtEnd, Cond.code yX1_zerosAtEnd cX1_zerosAtEnd 3 (some .int), Cond.methodLink RX1 34 yX1_figure, Cond.instanceMethod yX1_figure, Cond.selects RX1 yX1_figure yX1_figure]
def wsX2_turn_r3 : List Cond := [Cond.code yX1_figure cX1_figure 3 (some .int), Cond.fieldLink RX1 42 "DecimalRegisters$Natural" "TENS" "[J", Cond.constantLong RX1 45 (10), Cond.methodLink RX2 118 yX2_cutOff, Cond.instanceMethod yX2_cutOff, Cond.selects RX2 yX2_cutOff yX2_cutOff, Cond.code yX2_cutOff cX2_cutOff 2 none, Cond.fieldLink RX2 20 "DecimalRegisters" "one" "LDecimalRegisters$Decimal;", Cond.methodLink RX2 106 yX2_split, Cond.instanceMethod yX2_split, Cond.selects RX2 yX2_split yX2_split, Cond.code yX2_split cX2_split 4 none, Cond.fieldLink RX2 34 "DecimalRegisters" "top" "LDecimalRegisters$Natural;", Cond.fieldLink RX2 37 "DecimalRegisters" "bottom" "LDecimalRegisters$Natural;", Cond.methodLink RX2 155 yX2_align, Cond.instanceMethod yX2_align, Cond.selects RX2 yX2_align yX2_align, Cond.code yX2_align cX2_align 5 none, Cond.methodLink RX2 153 yX1_become, Cond.methodLink RX2 67 yX1_raise, Cond.instanceMethod yX1_raise, Cond.selects RX1 yX1_raise yX1_raise, Cond.code yX1_raise cX1_raise 10 none, Cond.constantLong RX1 26 (1000000)]
def wsX2_turn_r4 : List Cond := [Cond.methodLink RX1 47 yX1_close, Cond.instanceMethod yX1_close, Cond.selects RX1 yX1_close yX1_close, Cond.code yX1_close cX1_close 4 none, Cond.methodLink RX1 54 yX1_shift, Cond.instanceMethod yX1_shift, Cond.selects RX1 yX1_shift yX1_shift, Cond.code yX1_shift cX1_shift 3 none, Cond.methodLink RX2 158 yX1_takeOut, Cond.instanceMethod yX1_takeOut, Cond.selects RX1 yX1_takeOut yX1_takeOut, Cond.code yX1_takeOut cX1_takeOut 7 none, Cond.constantLong RX1 66 (-1), Cond.methodLink RX1 23 yX1_clear, Cond.instanceMethod yX1_clear, Cond.selects RX1 yX1_clear yX1_clear, Cond.code yX1_clear cX1_clear 2 none, Cond.methodLink RX1 58 yX1_guess, Cond.instanceMethod yX1_guess, Cond.selects RX1 yX1_guess yX1_guess, Cond.code yX1_guess cX1_guess 8 (some .long), Cond.methodLink RX1 62 yX1_takeAway, Cond.instanceMethod yX1_takeAway, Cond.selects RX1 yX1_takeAway yX1_takeAway]
def wsX2_turn_r5 : List Cond := [Cond.code yX1_takeAway cX1_takeAway 10 none, Cond.methodLink RX1 68 yJ9_floorDiv_f86c9, Cond.static yJ9_floorDiv_f86c9, Cond.initialized RJ9, Cond.code yJ9_floorDiv_f86c9 cJ9_floorDiv_f86c9 6 (some .long), Cond.methodLink RX1 51 yX1_shrink, Cond.instanceMethod yX1_shrink, Cond.selects RX1 yX1_shrink yX1_shrink, Cond.code yX1_shrink cX1_shrink 1 none, Cond.methodLink RX2 59 yX2_keep, Cond.instanceMethod yX2_keep, Cond.selects RX2 yX2_keep yX2_keep, Cond.code yX2_keep cX2_keep 3 (some .int), Cond.methodLink RX2 114 yX1_precision, Cond.instanceMethod yX1_precision, Cond.selects RX1 yX1_precision yX1_precision, Cond.code yX1_precision cX1_precision 2 (some .int), Cond.methodLink RX1 38 Lib.Math.max.name, Cond.static Lib.Math.max.name, Cond.initialized "java/lang/Math", Cond.code Lib.Math.max.name Lib.Math.max.code 2 (some .int), Cond.methodLink RX2 150 yX2_isScale, Cond.static yX2_isScale, Cond.code yX2_isScale cX2_isScale 1 (some .boolean)]
def wsX2_turn : List Cond := .code yX2_turn cX2_turn 4 (some .int) :: ((wsX2_turn_r1 ++ (wsX2_turn_r2 ++ (wsX2_turn_r3 ++ (wsX2_turn_r4 ++ wsX2_turn_r5)))) ++ wsX20 ++ wsX00 ++ wsX10)
def wsX2_move_r1 : List Cond := [Cond.fieldLink RX2 16 "DecimalRegisters" "result" "LDecimalRegisters$Decimal;", Cond.fieldLink RX2 11 "DecimalRegisters" "registers" "[LDecimalRegisters$Decimal;", Cond.fieldLink RX2 56 "DecimalRegisters$Decimal" "scale" "I", Cond.fieldLink RX2 23 "DecimalRegisters$Decimal" "digits" "LDecimalRegisters$Natural;", Cond.methodLink RX2 48 yX2_isRegister, Cond.static yX2_isRegister, Cond.initialized RX2, Cond.code yX2_isRegister cX2_isRegister 1 (some .boolean), Cond.methodLink RX2 63 yX0_become, Cond.instanceMethod yX0_become, Cond.selects RX0 yX0_become yX0_become, Cond.initialized RX0, Cond.code yX0_become cX0_become 2 none, Cond.fieldLink RX0 10 "DecimalRegisters$Decimal" "digits" "LDecimalRegisters$Natural;", Cond.fieldLink RX0 16 "DecimalRegisters$Decimal" "minus" "Z", Cond.fieldLink RX0 20 "DecimalRegisters$Decimal" "scale" "I", Cond.methodLink RX0 24 yX0_take, Cond.instanceMethod yX0_take, Cond.selects RX0 yX0_take yX0_take, Cond.code yX0_take cX0_take 4 none, Cond.methodLink RX0 28 yX1_become, Cond.instanceMethod yX1_become, Cond.selects RX1 yX1_become yX1_become, Cond.initialized RX1]
def wsX2_move_r2 : List Cond := [Cond.code yX1_become cX1_become 2 none, Cond.fieldLink RX1 9 "DecimalRegisters$Natural" "limbs" "[J", Cond.methodLink RX1 17 arraycopyName, Cond.native arraycopyName, Cond.static arraycopyName, Cond.initialized "java/lang/System", Cond.fieldLink RX1 13 "DecimalRegisters$Natural" "size" "I", Cond.methodLink RX0 32 yX1_isZero, Cond.instanceMethod yX1_isZero, Cond.selects RX1 yX1_isZero yX1_isZero, Cond.code yX1_isZero cX1_isZero 1 (some .boolean), Cond.methodLink RX2 67 yX1_raise, Cond.instanceMethod yX1_raise, Cond.selects RX1 yX1_raise yX1_raise, Cond.code yX1_raise cX1_raise 10 none, Cond.fieldLink RX1 42 "DecimalRegisters$Natural" "TENS" "[J", Cond.constantLong RX1 26 (1000000), Cond.methodLink RX1 47 yX1_close, Cond.instanceMethod yX1_close, Cond.selects RX1 yX1_close yX1_close, Cond.code yX1_close cX1_close 4 none, Cond.methodLink RX1 54 yX1_shift, Cond.instanceMethod yX1_shift, Cond.selects RX1 yX1_shift yX1_shift]
def wsX2_move_r3 : List Cond := [Cond.code yX1_shift cX1_shift 3 none, Cond.methodLink RX2 59 yX2_keep, Cond.instanceMethod yX2_keep, Cond.selects RX2 yX2_keep yX2_keep, Cond.code yX2_keep cX2_keep 3 (some .int), Cond.methodLink RX2 114 yX1_precision, Cond.instanceMethod yX1_precision, Cond.selects RX1 yX1_precision yX1_precision, Cond.code yX1_precision cX1_precision 2 (some .int), Cond.methodLink RX1 38 Lib.Math.max.name, Cond.static Lib.Math.max.name, Cond.initialized "java/lang/Math", Cond.code Lib.Math.max.name Lib.Math.max.code 2 (some .int), Cond.methodLink RX1 34 yX1_figure, Cond.instanceMethod yX1_figure, Cond.selects RX1 yX1_figure yX1_figure, Cond.code yX1_figure cX1_figure 3 (some .int), Cond.constantLong RX1 45 (10), Cond.methodLink RX2 150 yX2_isScale, Cond.static yX2_isScale, Cond.code yX2_isScale cX2_isScale 1 (some .boolean)]
def wsX2_move : List Cond := .code yX2_move cX2_move 5 (some .int) :: ((wsX2_move_r1 ++ (wsX2_move_r2 ++ wsX2_move_r3)) ++ wsX20 ++ wsX00 ++ wsX10)
def wsX2_power_r1 : List Cond := [Cond.fieldLink RX2 11 "DecimalRegisters" "registers" "[LDecimalRegisters$Decimal;", Cond.fieldLink RX2 23 "DecimalRegisters$Decimal" "digits" "LDecimalRegisters$Natural;", Cond.fieldLink RX2 16 "DecimalRegisters" "result" "LDecimalRegisters$Decimal;", Cond.fieldLink RX2 20 "DecimalRegisters" "one" "LDecimalRegisters$Decimal;", Cond.methodLink RX2 48 yX2_isRegister, Cond.static yX2_isRegister, Cond.initialized RX2, Cond.code yX2_isRegister cX2_isRegister 1 (some .boolean), Cond.methodLink RX2 114 yX1_precision, Cond.instanceMethod yX1_precision, Cond.selects RX1 yX1_precision yX1_precision, Cond.initialized RX1, Cond.code yX1_precision cX1_precision 2 (some .int), Cond.fieldLink RX1 13 "DecimalRegisters$Natural" "size" "I", Cond.methodLink RX1 38 Lib.Math.max.name, Cond.static Lib.Math.max.name, Cond.initialized "java/lang/Math", Cond.code Lib.Math.max.name Lib.Math.max.code 2 (some .int), Cond.methodLink RX1 34 yX1_figure, Cond.instanceMethod yX1_figure, Cond.selects RX1 yX1_figure yX1_figure, Cond.code yX1_figure cX1_figure 3 (some .int), Cond.fieldLink RX1 9 "DecimalRegisters$Natural" "limbs" "[J", Cond.fieldLink RX1 42 "DecimalRegisters$Natural" "TENS" "[J"]
def wsX2_power_r2 : List Cond := [Cond.constantLong RX1 45 (10), Cond.methodLink RX2 63 yX0_become, Cond.instanceMethod yX0_become, Cond.selects RX0 yX0_become yX0_become, Cond.initialized RX0, Cond.code yX0_become cX0_become 2 none, Cond.fieldLink RX0 10 "DecimalRegisters$Decimal" "digits" "LDecimalRegisters$Natural;", Cond.fieldLink RX0 16 "DecimalRegisters$Decimal" "minus" "Z", Cond.fieldLink RX0 20 "DecimalRegisters$Decimal" "scale" "I", Cond.methodLink RX0 24 yX0_take, Cond.instanceMethod yX0_take, Cond.selects RX0 yX0_take yX0_take, Cond.code yX0_take cX0_take 4 none, Cond.methodLink RX0 28 yX1_become, Cond.instanceMethod yX1_become, Cond.selects RX1 yX1_become yX1_become, Cond.code yX1_become cX1_become 2 none, Cond.methodLink RX1 17 arraycopyName, Cond.native arraycopyName, Cond.static arraycopyName, Cond.initialized "java/lang/System", Cond.methodLink RX0 32 yX1_isZero, Cond.instanceMethod yX1_isZero, Cond.selects RX1 yX1_isZero yX1_isZero]
def wsX2_power_r3 : List Cond := [Cond.code yX1_isZero cX1_isZero 1 (some .boolean), Cond.methodLink RX2 81 yX2_multiply, Cond.instanceMethod yX2_multiply, Cond.selects RX2 yX2_multiply yX2_multiply, Cond.code yX2_multiply cX2_multiply 3 none, Cond.fieldLink RX2 34 "DecimalRegisters" "top" "LDecimalRegisters$Natural;", Cond.fieldLink RX2 52 "DecimalRegisters$Decimal" "minus" "Z", Cond.fieldLink RX2 56 "DecimalRegisters$Decimal" "scale" "I", Cond.methodLink RX2 172 yX1_becomeProduct, Cond.instanceMethod yX1_becomeProduct, Cond.selects RX1 yX1_becomeProduct yX1_becomeProduct, Cond.code yX1_becomeProduct cX1_becomeProduct 9 none, Cond.constantLong RX1 26 (1000000), Cond.methodLink RX1 23 yX1_clear, Cond.instanceMethod yX1_clear, Cond.selects RX1 yX1_clear yX1_clear, Cond.code yX1_clear cX1_clear 2 none, Cond.methodLink RX1 51 yX1_shrink, Cond.instanceMethod yX1_shrink, Cond.selects RX1 yX1_shrink yX1_shrink, Cond.code yX1_shrink cX1_shrink 1 none, Cond.methodLink RX2 110 yX0_take, Cond.methodLink RX2 59 yX2_keep, Cond.instanceMethod yX2_keep]
def wsX2_power_r4 : List Cond := [Cond.selects RX2 yX2_keep yX2_keep, Cond.code yX2_keep cX2_keep 3 (some .int), Cond.methodLink RX2 150 yX2_isScale, Cond.static yX2_isScale, Cond.code yX2_isScale cX2_isScale 1 (some .boolean)]
def wsX2_power : List Cond := .code yX2_power cX2_power 6 (some .int) :: ((wsX2_power_r1 ++ (wsX2_power_r2 ++ (wsX2_power_r3 ++ wsX2_power_r4))) ++ wsX20 ++ wsX00 ++ wsX10)
def wsX2_compare_r1 : List Cond := [Cond.fieldLink RX2 11 "DecimalRegisters" "registers" "[LDecimalRegisters$Decimal;", Cond.methodLink RX2 48 yX2_isRegister, Cond.static yX2_isRegister, Cond.initialized RX2, Cond.code yX2_isRegister cX2_isRegister 1 (some .boolean), Cond.methodLink RX2 85 yX2_order, Cond.instanceMethod yX2_order, Cond.selects RX2 yX2_order yX2_order, Cond.code yX2_order cX2_order 3 (some .int), Cond.fieldLink RX2 52 "DecimalRegisters$Decimal" "minus" "Z", Cond.fieldLink RX2 37 "DecimalRegisters" "bottom" "LDecimalRegisters$Natural;", Cond.fieldLink RX2 34 "DecimalRegisters" "top" "LDecimalRegisters$Natural;", Cond.methodLink RX2 130 yX0_sign, Cond.instanceMethod yX0_sign, Cond.selects RX0 yX0_sign yX0_sign, Cond.initialized RX0, Cond.code yX0_sign cX0_sign 1 (some .int), Cond.fieldLink RX0 10 "DecimalRegisters$Decimal" "digits" "LDecimalRegisters$Natural;", Cond.fieldLink RX0 16 "DecimalRegisters$Decimal" "minus" "Z", Cond.methodLink RX0 32 yX1_isZero, Cond.instanceMethod yX1_isZero, Cond.selects RX1 yX1_isZero yX1_isZero, Cond.initialized RX1, Cond.code yX1_isZero cX1_isZero 1 (some .boolean)]
def wsX2_compare_r2 : List Cond := [Cond.fieldLink RX1 13 "DecimalRegisters$Natural" "size" "I", Cond.methodLink RX2 155 yX2_align, Cond.instanceMethod yX2_align, Cond.selects RX2 yX2_align yX2_align, Cond.code yX2_align cX2_align 5 none, Cond.fieldLink RX2 56 "DecimalRegisters$Decimal" "scale" "I", Cond.fieldLink RX2 23 "DecimalRegisters$Decimal" "digits" "LDecimalRegisters$Natural;", Cond.methodLink RX2 153 yX1_become, Cond.instanceMethod yX1_become, Cond.selects RX1 yX1_become yX1_become, Cond.code yX1_become cX1_become 2 none, Cond.fieldLink RX1 9 "DecimalRegisters$Natural" "limbs" "[J", Cond.methodLink RX1 17 arraycopyName, Cond.native arraycopyName, Cond.static arraycopyName, Cond.initialized "java/lang/System", Cond.methodLink RX2 67 yX1_raise, Cond.instanceMethod yX1_raise, Cond.selects RX1 yX1_raise yX1_raise, Cond.code yX1_raise cX1_raise 10 none, Cond.fieldLink RX1 42 "DecimalRegisters$Natural" "TENS" "[J", Cond.constantLong RX1 26 (1000000), Cond.methodLink RX1 47 yX1_close, Cond.instanceMethod yX1_close]
def wsX2_compare_r3 : List Cond := [Cond.selects RX1 yX1_close yX1_close, Cond.code yX1_close cX1_close 4 none, Cond.methodLink RX1 54 yX1_shift, Cond.instanceMethod yX1_shift, Cond.selects RX1 yX1_shift yX1_shift, Cond.code yX1_shift cX1_shift 3 none, Cond.methodLink RX2 127 yX1_order, Cond.instanceMethod yX1_order, Cond.selects RX1 yX1_order yX1_order, Cond.code yX1_order cX1_order 3 (some .int)]
def wsX2_compare : List Cond := .code yX2_compare cX2_compare 3 (some .int) :: ((wsX2_compare_r1 ++ (wsX2_compare_r2 ++ wsX2_compare_r3)) ++ wsX20 ++ wsX00 ++ wsX10)
def wsX2_same : List Cond := .code yX2_same cX2_same 5 (some .boolean) :: ([.fieldLink RX2 11 "DecimalRegisters" "registers" "[LDecimalRegisters$Decimal;", .fieldLink RX2 56 "DecimalRegisters$Decimal" "scale" "I", .fieldLink RX2 52 "DecimalRegisters$Decimal" "minus" "Z", .fieldLink RX2 23 "DecimalRegisters$Decimal" "digits" "LDecimalRegisters$Natural;", .methodLink RX2 48 yX2_isRegister, .static yX2_isRegister, .initialized RX2, .code yX2_isRegister cX2_isRegister 1 (some .boolean), .methodLink RX2 127 yX1_order, .instanceMethod yX1_order, .selects RX1 yX1_order yX1_order, .initialized RX1, .code yX1_order cX1_order 3 (some .int), .fieldLink RX1 13 "DecimalRegisters$Natural" "size" "I", .fieldLink RX1 9 "DecimalRegisters$Natural" "limbs" "[J"] ++ wsX20 ++ wsX00 ++ wsX10)
def wsX2_look_r1 : List Cond := [Cond.fieldLink RX2 11 "DecimalRegisters" "registers" "[LDecimalRegisters$Decimal;", Cond.fieldLink RX2 23 "DecimalRegisters$Decimal" "digits" "LDecimalRegisters$Natural;", Cond.fieldLink RX2 56 "DecimalRegisters$Decimal" "scale" "I", Cond.methodLink RX2 48 yX2_isRegister, Cond.static yX2_isRegister, Cond.initialized RX2, Cond.code yX2_isRegister cX2_isRegister 1 (some .boolean), Cond.methodLink RX2 130 yX0_sign, Cond.instanceMethod yX0_sign, Cond.selects RX0 yX0_sign yX0_sign, Cond.initialized RX0, Cond.code yX0_sign cX0_sign 1 (some .int), Cond.fieldLink RX0 10 "DecimalRegisters$Decimal" "digits" "LDecimalRegisters$Natural;", Cond.fieldLink RX0 16 "DecimalRegisters$Decimal" "minus" "Z", Cond.methodLink RX0 32 yX1_isZero, Cond.instanceMethod yX1_isZero, Cond.selects RX1 yX1_isZero yX1_isZero, Cond.initialized RX1, Cond.code yX1_isZero cX1_isZero 1 (some .boolean), Cond.fieldLink RX1 13 "DecimalRegisters$Natural" "size" "I", Cond.methodLink RX2 114 yX1_precision, Cond.instanceMethod yX1_precision, Cond.selects RX1 yX1_precision yX1_precision, Cond.code yX1_precision cX1_precision 2 (some .int)]
def wsX2_look_r2 : List Cond := [Cond.methodLink RX1 38 Lib.Math.max.name, Cond.static Lib.Math.max.name, Cond.initialized "java/lang/Math", Cond.code Lib.Math.max.name Lib.Math.max.code 2 (some .int), Cond.methodLink RX1 34 yX1_figure, Cond.instanceMethod yX1_figure, Cond.selects RX1 yX1_figure yX1_figure, Cond.code yX1_figure cX1_figure 3 (some .int), Cond.fieldLink RX1 9 "DecimalRegisters$Natural" "limbs" "[J", Cond.fieldLink RX1 42 "DecimalRegisters$Natural" "TENS" "[J", Cond.constantLong RX1 45 (10)]
def wsX2_look : List Cond := .code yX2_look cX2_look 3 (some .int) :: ((wsX2_look_r1 ++ wsX2_look_r2) ++ wsX20 ++ wsX00 ++ wsX10)
def wsX2_digit : List Cond := .code yX2_digit cX2_digit 3 (some .int) :: ([.fieldLink RX2 11 "DecimalRegisters" "registers" "[LDecimalRegisters$Decimal;", .fieldLink RX2 23 "DecimalRegisters$Decimal" "digits" "LDecimalRegisters$Natural;", .methodLink RX2 48 yX2_isRegister, .static yX2_isRegister, .initialized RX2, .code yX2_isRegister cX2_isRegister 1 (some .boolean), .methodLink RX2 114 yX1_precision, .instanceMethod yX1_precision, .selects RX1 yX1_precision yX1_precision, .initialized RX1, .code yX1_precision cX1_precision 2 (some .int), .fieldLink RX1 13 "DecimalRegisters$Natural" "size" "I", .methodLink RX1 38 Lib.Math.max.name, .static Lib.Math.max.name, .initialized "java/lang/Math", .code Lib.Math.max.name Lib.Math.max.code 2 (some .int), .methodLink RX1 34 yX1_figure, .instanceMethod yX1_figure, .selects RX1 yX1_figure yX1_figure, .code yX1_figure cX1_figure 3 (some .int), .fieldLink RX1 9 "DecimalRegisters$Natural" "limbs" "[J", .fieldLink RX1 42 "DecimalRegisters$Natural" "TENS" "[J", .constantLong RX1 45 (10), .methodLink RX2 133 yX1_figure] ++ wsX20 ++ wsX00 ++ wsX10)
def wsX2_whole_r1 : List Cond := [Cond.fieldLink RX2 11 "DecimalRegisters" "registers" "[LDecimalRegisters$Decimal;", Cond.fieldLink RX2 20 "DecimalRegisters" "one" "LDecimalRegisters$Decimal;", Cond.fieldLink RX2 16 "DecimalRegisters" "result" "LDecimalRegisters$Decimal;", Cond.fieldLink RX2 23 "DecimalRegisters$Decimal" "digits" "LDecimalRegisters$Natural;", Cond.fieldLink RX2 52 "DecimalRegisters$Decimal" "minus" "Z", Cond.methodLink RX2 48 yX2_isRegister, Cond.static yX2_isRegister, Cond.initialized RX2, Cond.code yX2_isRegister cX2_isRegister 1 (some .boolean), Cond.methodLink RX2 106 yX2_split, Cond.instanceMethod yX2_split, Cond.selects RX2 yX2_split yX2_split, Cond.code yX2_split cX2_split 4 none, Cond.fieldLink RX2 34 "DecimalRegisters" "top" "LDecimalRegisters$Natural;", Cond.fieldLink RX2 37 "DecimalRegisters" "bottom" "LDecimalRegisters$Natural;", Cond.fieldLink RX2 56 "DecimalRegisters$Decimal" "scale" "I", Cond.methodLink RX2 155 yX2_align, Cond.instanceMethod yX2_align, Cond.selects RX2 yX2_align yX2_align, Cond.code yX2_align cX2_align 5 none, Cond.methodLink RX2 153 yX1_become, Cond.instanceMethod yX1_become, Cond.selects RX1 yX1_become yX1_become, Cond.initialized RX1]
def wsX2_whole_r2 : List Cond := [Cond.code yX1_become cX1_become 2 none, Cond.fieldLink RX1 9 "DecimalRegisters$Natural" "limbs" "[J", Cond.methodLink RX1 17 arraycopyName, Cond.native arraycopyName, Cond.static arraycopyName, Cond.initialized "java/lang/System", Cond.fieldLink RX1 13 "DecimalRegisters$Natural" "size" "I", Cond.methodLink RX2 67 yX1_raise, Cond.instanceMethod yX1_raise, Cond.selects RX1 yX1_raise yX1_raise, Cond.code yX1_raise cX1_raise 10 none, Cond.fieldLink RX1 42 "DecimalRegisters$Natural" "TENS" "[J", Cond.constantLong RX1 26 (1000000), Cond.methodLink RX1 47 yX1_close, Cond.instanceMethod yX1_close, Cond.selects RX1 yX1_close yX1_close, Cond.code yX1_close cX1_close 4 none, Cond.methodLink RX1 54 yX1_shift, Cond.instanceMethod yX1_shift, Cond.selects RX1 yX1_shift yX1_shift, Cond.code yX1_shift cX1_shift 3 none, Cond.methodLink RX2 158 yX1_takeOut, Cond.instanceMethod yX1_takeOut, Cond.selects RX1 yX1_takeOut yX1_takeOut]
def wsX2_whole_r3 : List Cond := [Cond.code yX1_takeOut cX1_takeOut 7 none, Cond.constantLong RX1 66 (-1), Cond.methodLink RX1 23 yX1_clear, Cond.instanceMethod yX1_clear, Cond.selects RX1 yX1_clear yX1_clear, Cond.code yX1_clear cX1_clear 2 none, Cond.methodLink RX1 58 yX1_guess, Cond.instanceMethod yX1_guess, Cond.selects RX1 yX1_guess yX1_guess, Cond.code yX1_guess cX1_guess 8 (some .long), Cond.methodLink RX1 62 yX1_takeAway, Cond.instanceMethod yX1_takeAway, Cond.selects RX1 yX1_takeAway yX1_takeAway, Cond.code yX1_takeAway cX1_takeAway 10 none, Cond.methodLink RX1 68 yJ9_floorDiv_f86c9, Cond.static yJ9_floorDiv_f86c9, Cond.initialized RJ9, Cond.code yJ9_floorDiv_f86c9 cJ9_floorDiv_f86c9 6 (some .long), Cond.methodLink RX1 51 yX1_shrink, Cond.instanceMethod yX1_shrink, Cond.selects RX1 yX1_shrink yX1_shrink, Cond.code yX1_shrink cX1_shrink 1 none, Cond.methodLink RX2 136 yX1_lowestBits, Cond.instanceMethod yX1_lowestBits]
def wsX2_whole_r4 : List Cond := [Cond.selects RX1 yX1_lowestBits yX1_lowestBits, Cond.code yX1_lowestBits cX1_lowestBits 4 (some .long)]
def wsX2_whole : List Cond := .code yX2_whole cX2_whole 4 (some .long) :: ((wsX2_whole_r1 ++ (wsX2_whole_r2 ++ (wsX2_whole_r3 ++ wsX2_whole_r4))) ++ wsX20 ++ wsX00 ++ wsX10)
def wsX2_append : List Cond := .code yX2_append cX2_append 2 none :: ([.fieldLink RX2 44 "DecimalRegisters" "textLength" "I", .fieldLink RX2 40 "DecimalRegisters" "text" "[C"] ++ wsX20)
def wsX2_appendFigures_r1 : List Cond := [Cond.fieldLink RX2 23 "DecimalRegisters$Decimal" "digits" "LDecimalRegisters$Natural;", Cond.fieldLink RX2 56 "DecimalRegisters$Decimal" "scale" "I", Cond.methodLink RX2 100 Lib.Math.max.name, Cond.static Lib.Math.max.name, Cond.initialized "java/lang/Math", Cond.code Lib.Math.max.name Lib.Math.max.code 2 (some .int), Cond.methodLink RX2 114 yX1_precision, Cond.instanceMethod yX1_precision, Cond.selects RX1 yX1_precision yX1_precision, Cond.initialized RX1, Cond.code yX1_precision cX1_precision 2 (some .int), Cond.fieldLink RX1 13 "DecimalRegisters$Natural" "size" "I", Cond.methodLink RX1 38 Lib.Math.max.name, Cond.methodLink RX1 34 yX1_figure, Cond.instanceMethod yX1_figure, Cond.selects RX1 yX1_figure yX1_figure, Cond.code yX1_figure cX1_figure 3 (some .int), Cond.fieldLink RX1 9 "DecimalRegisters$Natural" "limbs" "[J", Cond.fieldLink RX1 42 "DecimalRegisters$Natural" "TENS" "[J", Cond.constantLong RX1 45 (10), Cond.methodLink RX2 133 yX1_figure, Cond.methodLink RX2 140 yX2_append, Cond.instanceMethod yX2_append, Cond.selects RX2 yX2_append yX2_append]
def wsX2_appendFigures_r2 : List Cond := [Cond.initialized RX2, Cond.code yX2_append cX2_append 2 none, Cond.fieldLink RX2 44 "DecimalRegisters" "textLength" "I", Cond.fieldLink RX2 40 "DecimalRegisters" "text" "[C"]
def wsX2_appendFigures : List Cond := .code yX2_appendFigures cX2_appendFigures 3 none :: ((wsX2_appendFigures_r1 ++ wsX2_appendFigures_r2) ++ wsX00 ++ wsX10 ++ wsX20)
def wsX2_appendZeros : List Cond := .code yX2_appendZeros cX2_appendZeros 3 none :: ([.methodLink RX2 140 yX2_append, .instanceMethod yX2_append, .selects RX2 yX2_append yX2_append, .initialized RX2, .code yX2_append cX2_append 2 none, .fieldLink RX2 44 "DecimalRegisters" "textLength" "I", .fieldLink RX2 40 "DecimalRegisters" "text" "[C"] ++ wsX20)
def wsX2_write_r1 : List Cond := [Cond.fieldLink RX2 11 "DecimalRegisters" "registers" "[LDecimalRegisters$Decimal;", Cond.fieldLink RX2 44 "DecimalRegisters" "textLength" "I", Cond.fieldLink RX2 52 "DecimalRegisters$Decimal" "minus" "Z", Cond.fieldLink RX2 23 "DecimalRegisters$Decimal" "digits" "LDecimalRegisters$Natural;", Cond.fieldLink RX2 56 "DecimalRegisters$Decimal" "scale" "I", Cond.methodLink RX2 48 yX2_isRegister, Cond.static yX2_isRegister, Cond.initialized RX2, Cond.code yX2_isRegister cX2_isRegister 1 (some .boolean), Cond.methodLink RX2 140 yX2_append, Cond.instanceMethod yX2_append, Cond.selects RX2 yX2_append yX2_append, Cond.code yX2_append cX2_append 2 none, Cond.fieldLink RX2 40 "DecimalRegisters" "text" "[C", Cond.methodLink RX2 144 yX2_appendFigures, Cond.instanceMethod yX2_appendFigures, Cond.selects RX2 yX2_appendFigures yX2_appendFigures, Cond.code yX2_appendFigures cX2_appendFigures 3 none, Cond.methodLink RX2 100 Lib.Math.max.name, Cond.static Lib.Math.max.name, Cond.initialized "java/lang/Math", Cond.code Lib.Math.max.name Lib.Math.max.code 2 (some .int), Cond.methodLink RX2 114 yX1_precision, Cond.instanceMethod yX1_precision]
def wsX2_write_r2 : List Cond := [Cond.selects RX1 yX1_precision yX1_precision, Cond.initialized RX1, Cond.code yX1_precision cX1_precision 2 (some .int), Cond.fieldLink RX1 13 "DecimalRegisters$Natural" "size" "I", Cond.methodLink RX1 38 Lib.Math.max.name, Cond.methodLink RX1 34 yX1_figure, Cond.instanceMethod yX1_figure, Cond.selects RX1 yX1_figure yX1_figure, Cond.code yX1_figure cX1_figure 3 (some .int), Cond.fieldLink RX1 9 "DecimalRegisters$Natural" "limbs" "[J", Cond.fieldLink RX1 42 "DecimalRegisters$Natural" "TENS" "[J", Cond.constantLong RX1 45 (10), Cond.methodLink RX2 133 yX1_figure, Cond.methodLink RX2 92 yX1_isZero, Cond.instanceMethod yX1_isZero, Cond.selects RX1 yX1_isZero yX1_isZero, Cond.code yX1_isZero cX1_isZero 1 (some .boolean), Cond.methodLink RX2 147 yX2_appendZeros, Cond.instanceMethod yX2_appendZeros, Cond.selects RX2 yX2_appendZeros yX2_appendZeros, Cond.code yX2_appendZeros cX2_appendZeros 3 none]
def wsX2_write : List Cond := .code yX2_write cX2_write 3 (some .int) :: ((wsX2_write_r1 ++ wsX2_write_r2) ++ wsX20 ++ wsX00 ++ wsX10)
def wsX2_octet : List Cond := .code yX2_octet cX2_octet 2 (some .int) :: ([.fieldLink RX2 44 "DecimalRegisters" "textLength" "I", .fieldLink RX2 40 "DecimalRegisters" "text" "[C"] ++ wsX20)
def wsX3_init : List Cond := .code yX3_init cX3_init 1 none :: ([.methodLink RX3 1 objectInit, .instanceMethod objectInit, .code objectInit ⟨#[0xb1]⟩ 1 none, .arrayClass .int, .fieldLink RX3 7 "DecimalRegistersModel$Row" "d" "[I", .fieldLink RX3 13 "DecimalRegistersModel$Row" "n" "I"] ++ wsX30)
def wsX3_isZero : List Cond := .code yX3_isZero cX3_isZero 1 (some .boolean) :: ([.fieldLink RX3 13 "DecimalRegistersModel$Row" "n" "I", .fieldLink RX3 7 "DecimalRegistersModel$Row" "d" "[I"] ++ wsX30)
def wsX3_zero : List Cond := .code yX3_zero cX3_zero 1 none :: ([.fieldLink RX3 13 "DecimalRegistersModel$Row" "n" "I", .fieldLink RX3 7 "DecimalRegistersModel$Row" "d" "[I", .fieldLink RX3 17 "DecimalRegistersModel$Row" "minus" "Z"] ++ wsX30)
def wsX3_trim : List Cond := .code yX3_trim cX3_trim 1 none :: ([.fieldLink RX3 13 "DecimalRegistersModel$Row" "n" "I", .fieldLink RX3 7 "DecimalRegistersModel$Row" "d" "[I", .fieldLink RX3 17 "DecimalRegistersModel$Row" "minus" "Z", .methodLink RX3 21 yX3_isZero, .instanceMethod yX3_isZero, .selects RX3 yX3_isZero yX3_isZero, .initialized RX3, .code yX3_isZero cX3_isZero 1 (some .boolean)] ++ wsX30)
def wsX3_take : List Cond := .code yX3_take cX3_take 3 none :: ([.fieldLink RX3 13 "DecimalRegistersModel$Row" "n" "I", .fieldLink RX3 17 "DecimalRegistersModel$Row" "minus" "Z", .fieldLink RX3 25 "DecimalRegistersModel$Row" "scale" "I", .fieldLink RX3 7 "DecimalRegistersModel$Row" "d" "[I"] ++ wsX30)
def wsX3_up : List Cond := .code yX3_up cX3_up 3 none :: ([.fieldLink RX3 13 "DecimalRegistersModel$Row" "n" "I", .fieldLink RX3 7 "DecimalRegistersModel$Row" "d" "[I", .methodLink RX3 21 yX3_isZero, .instanceMethod yX3_isZero, .selects RX3 yX3_isZero yX3_isZero, .initialized RX3, .code yX3_isZero cX3_isZero 1 (some .boolean)] ++ wsX30)
def wsX3_ends : List Cond := .code yX3_ends cX3_ends 3 (some .boolean) :: ([.fieldLink RX3 13 "DecimalRegistersModel$Row" "n" "I", .fieldLink RX3 7 "DecimalRegistersModel$Row" "d" "[I"] ++ wsX30)
def wsX3_more : List Cond := .code yX3_more cX3_more 2 none :: ([.fieldLink RX3 13 "DecimalRegistersModel$Row" "n" "I", .fieldLink RX3 7 "DecimalRegistersModel$Row" "d" "[I"] ++ wsX30)
def wsX4_init : List Cond := .code yX4_init cX4_init 2 none :: ([.methodLink RX4 1 objectInit, .instanceMethod objectInit, .code objectInit ⟨#[0xb1]⟩ 1 none, .classLink RX4 7 RX3, .fieldLink RX4 9 "DecimalRegistersModel" "registers" "[LDecimalRegistersModel$Row;", .instantiable RX3 4, .initialized RX3, .fieldLink RX4 16 "DecimalRegistersModel" "a" "LDecimalRegistersModel$Row;", .fieldLink RX4 20 "DecimalRegistersModel" "b" "LDecimalRegistersModel$Row;", .fieldLink RX4 23 "DecimalRegistersModel" "c" "LDecimalRegistersModel$Row;", .fieldLink RX4 26 "DecimalRegistersModel" "e" "LDecimalRegistersModel$Row;", .arrayClass .int, .fieldLink RX4 29 "DecimalRegistersModel" "text" "[I", .instanceMethod yX3_init, .code yX3_init cX3_init 1 none, .methodLink RX3 1 objectInit, .fieldLink RX3 7 "DecimalRegistersModel$Row" "d" "[I", .fieldLink RX3 13 "DecimalRegistersModel$Row" "n" "I"] ++ wsX40 ++ wsX30)
def wsX4_is : List Cond := .code yX4_is cX4_is 1 (some .boolean) :: ([])
def wsX4_isScale : List Cond := .code yX4_isScale cX4_isScale 2 (some .boolean) :: ([.constantLong RX4 33 (-6), .constantLong RX4 35 (6)])
def wsX4_keep : List Cond := .code yX4_keep cX4_keep 3 (some .int) :: ([.fieldLink RX4 37 "DecimalRegistersModel$Row" "n" "I", .fieldLink RX4 41 "DecimalRegistersModel$Row" "scale" "I", .fieldLink RX4 9 "DecimalRegistersModel" "registers" "[LDecimalRegistersModel$Row;", .methodLink RX4 44 yX4_isScale, .static yX4_isScale, .initialized RX4, .code yX4_isScale cX4_isScale 2 (some .boolean), .constantLong RX4 33 (-6), .constantLong RX4 35 (6), .methodLink RX4 48 yX3_take, .instanceMethod yX3_take, .selects RX3 yX3_take yX3_take, .initialized RX3, .code yX3_take cX3_take 3 none, .fieldLink RX3 13 "DecimalRegistersModel$Row" "n" "I", .fieldLink RX3 17 "DecimalRegistersModel$Row" "minus" "Z", .fieldLink RX3 25 "DecimalRegistersModel$Row" "scale" "I", .fieldLink RX3 7 "DecimalRegistersModel$Row" "d" "[I"] ++ wsX30 ++ wsX40)
def wsX4_load : List Cond := .code yX4_load cX4_load 10 (some .int) :: ([.fieldLink RX4 9 "DecimalRegistersModel" "registers" "[LDecimalRegistersModel$Row;", .fieldLink RX4 37 "DecimalRegistersModel$Row" "n" "I", .constantLong RX4 56 (10), .fieldLink RX4 58 "DecimalRegistersModel$Row" "d" "[I", .fieldLink RX4 61 "DecimalRegistersModel$Row" "minus" "Z", .fieldLink RX4 41 "DecimalRegistersModel$Row" "scale" "I", .methodLink RX4 52 yX4_is, .static yX4_is, .initialized RX4, .code yX4_is cX4_is 1 (some .boolean), .methodLink RX4 44 yX4_isScale, .static yX4_isScale, .code yX4_isScale cX4_isScale 2 (some .boolean), .constantLong RX4 33 (-6), .constantLong RX4 35 (6)] ++ wsX40 ++ wsX30)
def wsX4_push_r1 : List Cond := [Cond.fieldLink RX4 16 "DecimalRegistersModel" "a" "LDecimalRegistersModel$Row;", Cond.fieldLink RX4 9 "DecimalRegistersModel" "registers" "[LDecimalRegistersModel$Row;", Cond.fieldLink RX4 37 "DecimalRegistersModel$Row" "n" "I", Cond.fieldLink RX4 58 "DecimalRegistersModel$Row" "d" "[I", Cond.constantLong RX4 56 (10), Cond.methodLink RX4 52 yX4_is, Cond.static yX4_is, Cond.initialized RX4, Cond.code yX4_is cX4_is 1 (some .boolean), Cond.methodLink RX4 48 yX3_take, Cond.instanceMethod yX3_take, Cond.selects RX3 yX3_take yX3_take, Cond.initialized RX3, Cond.code yX3_take cX3_take 3 none, Cond.fieldLink RX3 13 "DecimalRegistersModel$Row" "n" "I", Cond.fieldLink RX3 17 "DecimalRegistersModel$Row" "minus" "Z", Cond.fieldLink RX3 25 "DecimalRegistersModel$Row" "scale" "I", Cond.fieldLink RX3 7 "DecimalRegistersModel$Row" "d" "[I", Cond.methodLink RX4 65 yX3_trim, Cond.instanceMethod yX3_trim, Cond.selects RX3 yX3_trim yX3_trim, Cond.code yX3_trim cX3_trim 1 none, Cond.methodLink RX3 21 yX3_isZero, Cond.instanceMethod yX3_isZero]
def wsX4_push_r2 : List Cond := [Cond.selects RX3 yX3_isZero yX3_isZero, Cond.code yX3_isZero cX3_isZero 1 (some .boolean), Cond.methodLink RX4 68 yX4_keep, Cond.instanceMethod yX4_keep, Cond.selects RX4 yX4_keep yX4_keep, Cond.code yX4_keep cX4_keep 3 (some .int), Cond.fieldLink RX4 41 "DecimalRegistersModel$Row" "scale" "I", Cond.methodLink RX4 44 yX4_isScale, Cond.static yX4_isScale, Cond.code yX4_isScale cX4_isScale 2 (some .boolean), Cond.constantLong RX4 33 (-6), Cond.constantLong RX4 35 (6)]
def wsX4_push : List Cond := .code yX4_push cX4_push 9 (some .int) :: ((wsX4_push_r1 ++ wsX4_push_r2) ++ wsX40 ++ wsX30)
def wsX4_sizes : List Cond := .code yX4_sizes cX4_sizes 3 (some .int) :: ([.fieldLink RX4 37 "DecimalRegistersModel$Row" "n" "I", .fieldLink RX4 58 "DecimalRegistersModel$Row" "d" "[I"] ++ wsX30)
def wsX4_align : List Cond := .code yX4_align cX4_align 4 none :: ([.fieldLink RX4 16 "DecimalRegistersModel" "a" "LDecimalRegistersModel$Row;", .fieldLink RX4 9 "DecimalRegistersModel" "registers" "[LDecimalRegistersModel$Row;", .fieldLink RX4 20 "DecimalRegistersModel" "b" "LDecimalRegistersModel$Row;", .fieldLink RX4 41 "DecimalRegistersModel$Row" "scale" "I", .methodLink RX4 48 yX3_take, .instanceMethod yX3_take, .selects RX3 yX3_take yX3_take, .initialized RX3, .code yX3_take cX3_take 3 none, .fieldLink RX3 13 "DecimalRegistersModel$Row" "n" "I", .fieldLink RX3 17 "DecimalRegistersModel$Row" "minus" "Z", .fieldLink RX3 25 "DecimalRegistersModel$Row" "scale" "I", .fieldLink RX3 7 "DecimalRegistersModel$Row" "d" "[I", .methodLink RX4 72 yX3_up, .instanceMethod yX3_up, .selects RX3 yX3_up yX3_up, .code yX3_up cX3_up 3 none, .methodLink RX3 21 yX3_isZero, .instanceMethod yX3_isZero, .selects RX3 yX3_isZero yX3_isZero, .code yX3_isZero cX3_isZero 1 (some .boolean)] ++ wsX40 ++ wsX30)
def wsX4_order_r1 : List Cond := [Cond.fieldLink RX4 16 "DecimalRegistersModel" "a" "LDecimalRegistersModel$Row;", Cond.fieldLink RX4 61 "DecimalRegistersModel$Row" "minus" "Z", Cond.fieldLink RX4 20 "DecimalRegistersModel" "b" "LDecimalRegistersModel$Row;", Cond.methodLink RX4 76 yX4_align, Cond.instanceMethod yX4_align, Cond.selects RX4 yX4_align yX4_align, Cond.initialized RX4, Cond.code yX4_align cX4_align 4 none, Cond.fieldLink RX4 9 "DecimalRegistersModel" "registers" "[LDecimalRegistersModel$Row;", Cond.fieldLink RX4 41 "DecimalRegistersModel$Row" "scale" "I", Cond.methodLink RX4 48 yX3_take, Cond.instanceMethod yX3_take, Cond.selects RX3 yX3_take yX3_take, Cond.initialized RX3, Cond.code yX3_take cX3_take 3 none, Cond.fieldLink RX3 13 "DecimalRegistersModel$Row" "n" "I", Cond.fieldLink RX3 17 "DecimalRegistersModel$Row" "minus" "Z", Cond.fieldLink RX3 25 "DecimalRegistersModel$Row" "scale" "I", Cond.fieldLink RX3 7 "DecimalRegistersModel$Row" "d" "[I", Cond.methodLink RX4 72 yX3_up, Cond.instanceMethod yX3_up, Cond.selects RX3 yX3_up yX3_up, Cond.code yX3_up cX3_up 3 none, Cond.methodLink RX3 21 yX3_isZero]
def wsX4_order_r2 : List Cond := [Cond.instanceMethod yX3_isZero, Cond.selects RX3 yX3_isZero yX3_isZero, Cond.code yX3_isZero cX3_isZero 1 (some .boolean), Cond.methodLink RX4 80 yX4_sizes, Cond.static yX4_sizes, Cond.code yX4_sizes cX4_sizes 3 (some .int), Cond.fieldLink RX4 37 "DecimalRegistersModel$Row" "n" "I", Cond.fieldLink RX4 58 "DecimalRegistersModel$Row" "d" "[I"]
def wsX4_order : List Cond := .code yX4_order cX4_order 4 (some .int) :: ((wsX4_order_r1 ++ wsX4_order_r2) ++ wsX40 ++ wsX30)
def wsX4_sum : List Cond := .code yX4_sum cX4_sum 8 none :: ([.fieldLink RX4 20 "DecimalRegistersModel" "b" "LDecimalRegistersModel$Row;", .fieldLink RX4 61 "DecimalRegistersModel$Row" "minus" "Z", .fieldLink RX4 23 "DecimalRegistersModel" "c" "LDecimalRegistersModel$Row;", .fieldLink RX4 16 "DecimalRegistersModel" "a" "LDecimalRegistersModel$Row;", .fieldLink RX4 41 "DecimalRegistersModel$Row" "scale" "I", .fieldLink RX4 37 "DecimalRegistersModel$Row" "n" "I", .fieldLink RX4 58 "DecimalRegistersModel$Row" "d" "[I", .methodLink RX4 84 yX3_isZero, .instanceMethod yX3_isZero, .selects RX3 yX3_isZero yX3_isZero, .initialized RX3, .code yX3_isZero cX3_isZero 1 (some .boolean), .fieldLink RX3 13 "DecimalRegistersModel$Row" "n" "I", .fieldLink RX3 7 "DecimalRegistersModel$Row" "d" "[I", .methodLink RX4 80 yX4_sizes, .static yX4_sizes, .initialized RX4, .code yX4_sizes cX4_sizes 3 (some .int), .methodLink RX4 65 yX3_trim, .instanceMethod yX3_trim, .selects RX3 yX3_trim yX3_trim, .code yX3_trim cX3_trim 1 none, .fieldLink RX3 17 "DecimalRegistersModel$Row" "minus" "Z", .methodLink RX3 21 yX3_isZero] ++ wsX40 ++ wsX30)
def wsX4_product : List Cond := .code yX4_product cX4_product 7 none :: ([.fieldLink RX4 37 "DecimalRegistersModel$Row" "n" "I", .fieldLink RX4 58 "DecimalRegistersModel$Row" "d" "[I", .fieldLink RX4 61 "DecimalRegistersModel$Row" "minus" "Z", .fieldLink RX4 41 "DecimalRegistersModel$Row" "scale" "I", .methodLink RX4 65 yX3_trim, .instanceMethod yX3_trim, .selects RX3 yX3_trim yX3_trim, .initialized RX3, .code yX3_trim cX3_trim 1 none, .fieldLink RX3 13 "DecimalRegistersModel$Row" "n" "I", .fieldLink RX3 7 "DecimalRegistersModel$Row" "d" "[I", .fieldLink RX3 17 "DecimalRegistersModel$Row" "minus" "Z", .methodLink RX3 21 yX3_isZero, .instanceMethod yX3_isZero, .selects RX3 yX3_isZero yX3_isZero, .code yX3_isZero cX3_isZero 1 (some .boolean)] ++ wsX30)
def wsX4_reckon_r1 : List Cond := [Cond.fieldLink RX4 16 "DecimalRegistersModel" "a" "LDecimalRegistersModel$Row;", Cond.fieldLink RX4 9 "DecimalRegistersModel" "registers" "[LDecimalRegistersModel$Row;", Cond.fieldLink RX4 23 "DecimalRegistersModel" "c" "LDecimalRegistersModel$Row;", Cond.methodLink RX4 52 yX4_is, Cond.static yX4_is, Cond.initialized RX4, Cond.code yX4_is cX4_is 1 (some .boolean), Cond.methodLink RX4 88 yX4_order, Cond.instanceMethod yX4_order, Cond.selects RX4 yX4_order yX4_order, Cond.code yX4_order cX4_order 4 (some .int), Cond.fieldLink RX4 61 "DecimalRegistersModel$Row" "minus" "Z", Cond.fieldLink RX4 20 "DecimalRegistersModel" "b" "LDecimalRegistersModel$Row;", Cond.methodLink RX4 76 yX4_align, Cond.instanceMethod yX4_align, Cond.selects RX4 yX4_align yX4_align, Cond.code yX4_align cX4_align 4 none, Cond.fieldLink RX4 41 "DecimalRegistersModel$Row" "scale" "I", Cond.methodLink RX4 48 yX3_take, Cond.instanceMethod yX3_take, Cond.selects RX3 yX3_take yX3_take, Cond.initialized RX3, Cond.code yX3_take cX3_take 3 none, Cond.fieldLink RX3 13 "DecimalRegistersModel$Row" "n" "I"]
def wsX4_reckon_r2 : List Cond := [Cond.fieldLink RX3 17 "DecimalRegistersModel$Row" "minus" "Z", Cond.fieldLink RX3 25 "DecimalRegistersModel$Row" "scale" "I", Cond.fieldLink RX3 7 "DecimalRegistersModel$Row" "d" "[I", Cond.methodLink RX4 72 yX3_up, Cond.instanceMethod yX3_up, Cond.selects RX3 yX3_up yX3_up, Cond.code yX3_up cX3_up 3 none, Cond.methodLink RX3 21 yX3_isZero, Cond.instanceMethod yX3_isZero, Cond.selects RX3 yX3_isZero yX3_isZero, Cond.code yX3_isZero cX3_isZero 1 (some .boolean), Cond.methodLink RX4 80 yX4_sizes, Cond.static yX4_sizes, Cond.code yX4_sizes cX4_sizes 3 (some .int), Cond.fieldLink RX4 37 "DecimalRegistersModel$Row" "n" "I", Cond.fieldLink RX4 58 "DecimalRegistersModel$Row" "d" "[I", Cond.methodLink RX4 68 yX4_keep, Cond.instanceMethod yX4_keep, Cond.selects RX4 yX4_keep yX4_keep, Cond.code yX4_keep cX4_keep 3 (some .int), Cond.methodLink RX4 44 yX4_isScale, Cond.static yX4_isScale, Cond.code yX4_isScale cX4_isScale 2 (some .boolean), Cond.constantLong RX4 33 (-6)]
def wsX4_reckon_r3 : List Cond := [Cond.constantLong RX4 35 (6), Cond.methodLink RX4 92 yX4_product, Cond.static yX4_product, Cond.code yX4_product cX4_product 7 none, Cond.methodLink RX4 65 yX3_trim, Cond.instanceMethod yX3_trim, Cond.selects RX3 yX3_trim yX3_trim, Cond.code yX3_trim cX3_trim 1 none, Cond.methodLink RX4 96 yX4_sum, Cond.instanceMethod yX4_sum, Cond.selects RX4 yX4_sum yX4_sum, Cond.code yX4_sum cX4_sum 8 none, Cond.methodLink RX4 84 yX3_isZero]
def wsX4_reckon : List Cond := .code yX4_reckon cX4_reckon 7 (some .int) :: ((wsX4_reckon_r1 ++ (wsX4_reckon_r2 ++ wsX4_reckon_r3)) ++ wsX40 ++ wsX30)
def wsX4_over : List Cond := .code yX4_over cX4_over 6 none :: ([.fieldLink RX4 23 "DecimalRegistersModel" "c" "LDecimalRegistersModel$Row;", .fieldLink RX4 16 "DecimalRegistersModel" "a" "LDecimalRegistersModel$Row;", .fieldLink RX4 37 "DecimalRegistersModel$Row" "n" "I", .fieldLink RX4 26 "DecimalRegistersModel" "e" "LDecimalRegistersModel$Row;", .fieldLink RX4 58 "DecimalRegistersModel$Row" "d" "[I", .fieldLink RX4 20 "DecimalRegistersModel" "b" "LDecimalRegistersModel$Row;", .methodLink RX4 80 yX4_sizes, .static yX4_sizes, .initialized RX4, .code yX4_sizes cX4_sizes 3 (some .int)] ++ wsX40 ++ wsX30)
def wsX4_turns : List Cond := .code yX4_turns cX4_turns 4 (some .boolean) :: ([])
def wsX4_divide_r1 : List Cond := [Cond.fieldLink RX4 9 "DecimalRegistersModel" "registers" "[LDecimalRegistersModel$Row;", Cond.fieldLink RX4 16 "DecimalRegistersModel" "a" "LDecimalRegistersModel$Row;", Cond.fieldLink RX4 20 "DecimalRegistersModel" "b" "LDecimalRegistersModel$Row;", Cond.fieldLink RX4 61 "DecimalRegistersModel$Row" "minus" "Z", Cond.fieldLink RX4 41 "DecimalRegistersModel$Row" "scale" "I", Cond.fieldLink RX4 37 "DecimalRegistersModel$Row" "n" "I", Cond.fieldLink RX4 58 "DecimalRegistersModel$Row" "d" "[I", Cond.fieldLink RX4 23 "DecimalRegistersModel" "c" "LDecimalRegistersModel$Row;", Cond.methodLink RX4 52 yX4_is, Cond.static yX4_is, Cond.initialized RX4, Cond.code yX4_is cX4_is 1 (some .boolean), Cond.methodLink RX4 84 yX3_isZero, Cond.instanceMethod yX3_isZero, Cond.selects RX3 yX3_isZero yX3_isZero, Cond.initialized RX3, Cond.code yX3_isZero cX3_isZero 1 (some .boolean), Cond.fieldLink RX3 13 "DecimalRegistersModel$Row" "n" "I", Cond.fieldLink RX3 7 "DecimalRegistersModel$Row" "d" "[I", Cond.methodLink RX4 44 yX4_isScale, Cond.static yX4_isScale, Cond.code yX4_isScale cX4_isScale 2 (some .boolean), Cond.constantLong RX4 33 (-6), Cond.constantLong RX4 35 (6)]
def wsX4_divide_r2 : List Cond := [Cond.methodLink RX4 48 yX3_take, Cond.instanceMethod yX3_take, Cond.selects RX3 yX3_take yX3_take, Cond.code yX3_take cX3_take 3 none, Cond.fieldLink RX3 17 "DecimalRegistersModel$Row" "minus" "Z", Cond.fieldLink RX3 25 "DecimalRegistersModel$Row" "scale" "I", Cond.methodLink RX4 72 yX3_up, Cond.instanceMethod yX3_up, Cond.selects RX3 yX3_up yX3_up, Cond.code yX3_up cX3_up 3 none, Cond.methodLink RX3 21 yX3_isZero, Cond.methodLink RX4 100 yX4_over, Cond.instanceMethod yX4_over, Cond.selects RX4 yX4_over yX4_over, Cond.code yX4_over cX4_over 6 none, Cond.fieldLink RX4 26 "DecimalRegistersModel" "e" "LDecimalRegistersModel$Row;", Cond.methodLink RX4 80 yX4_sizes, Cond.static yX4_sizes, Cond.code yX4_sizes cX4_sizes 3 (some .int), Cond.methodLink RX4 103 yX4_turns, Cond.static yX4_turns, Cond.code yX4_turns cX4_turns 4 (some .boolean), Cond.methodLink RX4 107 yX3_more, Cond.instanceMethod yX3_more]
def wsX4_divide_r3 : List Cond := [Cond.selects RX3 yX3_more yX3_more, Cond.code yX3_more cX3_more 2 none, Cond.methodLink RX4 65 yX3_trim, Cond.instanceMethod yX3_trim, Cond.selects RX3 yX3_trim yX3_trim, Cond.code yX3_trim cX3_trim 1 none, Cond.methodLink RX4 68 yX4_keep, Cond.instanceMethod yX4_keep, Cond.selects RX4 yX4_keep yX4_keep, Cond.code yX4_keep cX4_keep 3 (some .int)]
def wsX4_divide : List Cond := .code yX4_divide cX4_divide 11 (some .int) :: ((wsX4_divide_r1 ++ (wsX4_divide_r2 ++ wsX4_divide_r3)) ++ wsX40 ++ wsX30)
def wsX4_part_r1 : List Cond := [Cond.fieldLink RX4 9 "DecimalRegistersModel" "registers" "[LDecimalRegistersModel$Row;", Cond.fieldLink RX4 16 "DecimalRegistersModel" "a" "LDecimalRegistersModel$Row;", Cond.fieldLink RX4 61 "DecimalRegistersModel$Row" "minus" "Z", Cond.fieldLink RX4 23 "DecimalRegistersModel" "c" "LDecimalRegistersModel$Row;", Cond.fieldLink RX4 20 "DecimalRegistersModel" "b" "LDecimalRegistersModel$Row;", Cond.fieldLink RX4 41 "DecimalRegistersModel$Row" "scale" "I", Cond.fieldLink RX4 37 "DecimalRegistersModel$Row" "n" "I", Cond.methodLink RX4 52 yX4_is, Cond.static yX4_is, Cond.initialized RX4, Cond.code yX4_is cX4_is 1 (some .boolean), Cond.methodLink RX4 84 yX3_isZero, Cond.instanceMethod yX3_isZero, Cond.selects RX3 yX3_isZero yX3_isZero, Cond.initialized RX3, Cond.code yX3_isZero cX3_isZero 1 (some .boolean), Cond.fieldLink RX3 13 "DecimalRegistersModel$Row" "n" "I", Cond.fieldLink RX3 7 "DecimalRegistersModel$Row" "d" "[I", Cond.methodLink RX4 76 yX4_align, Cond.instanceMethod yX4_align, Cond.selects RX4 yX4_align yX4_align, Cond.code yX4_align cX4_align 4 none, Cond.methodLink RX4 48 yX3_take, Cond.instanceMethod yX3_take]
def wsX4_part_r2 : List Cond := [Cond.selects RX3 yX3_take yX3_take, Cond.code yX3_take cX3_take 3 none, Cond.fieldLink RX3 17 "DecimalRegistersModel$Row" "minus" "Z", Cond.fieldLink RX3 25 "DecimalRegistersModel$Row" "scale" "I", Cond.methodLink RX4 72 yX3_up, Cond.instanceMethod yX3_up, Cond.selects RX3 yX3_up yX3_up, Cond.code yX3_up cX3_up 3 none, Cond.methodLink RX3 21 yX3_isZero, Cond.methodLink RX4 100 yX4_over, Cond.instanceMethod yX4_over, Cond.selects RX4 yX4_over yX4_over, Cond.code yX4_over cX4_over 6 none, Cond.fieldLink RX4 26 "DecimalRegistersModel" "e" "LDecimalRegistersModel$Row;", Cond.fieldLink RX4 58 "DecimalRegistersModel$Row" "d" "[I", Cond.methodLink RX4 80 yX4_sizes, Cond.static yX4_sizes, Cond.code yX4_sizes cX4_sizes 3 (some .int), Cond.methodLink RX4 65 yX3_trim, Cond.instanceMethod yX3_trim, Cond.selects RX3 yX3_trim yX3_trim, Cond.code yX3_trim cX3_trim 1 none]
def wsX4_part : List Cond := .code yX4_part cX4_part 7 (some .int) :: ((wsX4_part_r1 ++ wsX4_part_r2) ++ wsX40 ++ wsX30)
def wsX4_cut : List Cond := .code yX4_cut cX4_cut 8 (some .boolean) :: ([.fieldLink RX4 16 "DecimalRegistersModel" "a" "LDecimalRegistersModel$Row;", .fieldLink RX4 37 "DecimalRegistersModel$Row" "n" "I", .fieldLink RX4 58 "DecimalRegistersModel$Row" "d" "[I", .fieldLink RX4 61 "DecimalRegistersModel$Row" "minus" "Z", .methodLink RX4 110 yX3_ends, .instanceMethod yX3_ends, .selects RX3 yX3_ends yX3_ends, .initialized RX3, .code yX3_ends cX3_ends 3 (some .boolean), .fieldLink RX3 13 "DecimalRegistersModel$Row" "n" "I", .fieldLink RX3 7 "DecimalRegistersModel$Row" "d" "[I", .methodLink RX4 103 yX4_turns, .static yX4_turns, .initialized RX4, .code yX4_turns cX4_turns 4 (some .boolean), .methodLink RX4 107 yX3_more, .instanceMethod yX3_more, .selects RX3 yX3_more yX3_more, .code yX3_more cX3_more 2 none] ++ wsX40 ++ wsX30)
def wsX4_scale_r1 : List Cond := [Cond.fieldLink RX4 16 "DecimalRegistersModel" "a" "LDecimalRegistersModel$Row;", Cond.fieldLink RX4 9 "DecimalRegistersModel" "registers" "[LDecimalRegistersModel$Row;", Cond.fieldLink RX4 41 "DecimalRegistersModel$Row" "scale" "I", Cond.methodLink RX4 52 yX4_is, Cond.static yX4_is, Cond.initialized RX4, Cond.code yX4_is cX4_is 1 (some .boolean), Cond.methodLink RX4 44 yX4_isScale, Cond.static yX4_isScale, Cond.code yX4_isScale cX4_isScale 2 (some .boolean), Cond.constantLong RX4 33 (-6), Cond.constantLong RX4 35 (6), Cond.methodLink RX4 48 yX3_take, Cond.instanceMethod yX3_take, Cond.selects RX3 yX3_take yX3_take, Cond.initialized RX3, Cond.code yX3_take cX3_take 3 none, Cond.fieldLink RX3 13 "DecimalRegistersModel$Row" "n" "I", Cond.fieldLink RX3 17 "DecimalRegistersModel$Row" "minus" "Z", Cond.fieldLink RX3 25 "DecimalRegistersModel$Row" "scale" "I", Cond.fieldLink RX3 7 "DecimalRegistersModel$Row" "d" "[I", Cond.methodLink RX4 72 yX3_up, Cond.instanceMethod yX3_up, Cond.selects RX3 yX3_up yX3_up]
def wsX4_scale_r2 : List Cond := [Cond.code yX3_up cX3_up 3 none, Cond.methodLink RX3 21 yX3_isZero, Cond.instanceMethod yX3_isZero, Cond.selects RX3 yX3_isZero yX3_isZero, Cond.code yX3_isZero cX3_isZero 1 (some .boolean), Cond.methodLink RX4 113 yX4_cut, Cond.instanceMethod yX4_cut, Cond.selects RX4 yX4_cut yX4_cut, Cond.code yX4_cut cX4_cut 8 (some .boolean), Cond.fieldLink RX4 37 "DecimalRegistersModel$Row" "n" "I", Cond.fieldLink RX4 58 "DecimalRegistersModel$Row" "d" "[I", Cond.fieldLink RX4 61 "DecimalRegistersModel$Row" "minus" "Z", Cond.methodLink RX4 110 yX3_ends, Cond.instanceMethod yX3_ends, Cond.selects RX3 yX3_ends yX3_ends, Cond.code yX3_ends cX3_ends 3 (some .boolean), Cond.methodLink RX4 103 yX4_turns, Cond.static yX4_turns, Cond.code yX4_turns cX4_turns 4 (some .boolean), Cond.methodLink RX4 107 yX3_more, Cond.instanceMethod yX3_more, Cond.selects RX3 yX3_more yX3_more, Cond.code yX3_more cX3_more 2 none, Cond.methodLink RX4 65 yX3_trim]
def wsX4_scale_r3 : List Cond := [Cond.instanceMethod yX3_trim, Cond.selects RX3 yX3_trim yX3_trim, Cond.code yX3_trim cX3_trim 1 none, Cond.methodLink RX4 68 yX4_keep, Cond.instanceMethod yX4_keep, Cond.selects RX4 yX4_keep yX4_keep, Cond.code yX4_keep cX4_keep 3 (some .int)]
def wsX4_scale : List Cond := .code yX4_scale cX4_scale 5 (some .int) :: ((wsX4_scale_r1 ++ (wsX4_scale_r2 ++ wsX4_scale_r3)) ++ wsX40 ++ wsX30)
def wsX4_round_r1 : List Cond := [Cond.fieldLink RX4 9 "DecimalRegistersModel" "registers" "[LDecimalRegistersModel$Row;", Cond.fieldLink RX4 37 "DecimalRegistersModel$Row" "n" "I", Cond.fieldLink RX4 16 "DecimalRegistersModel" "a" "LDecimalRegistersModel$Row;", Cond.fieldLink RX4 41 "DecimalRegistersModel$Row" "scale" "I", Cond.methodLink RX4 52 yX4_is, Cond.static yX4_is, Cond.initialized RX4, Cond.code yX4_is cX4_is 1 (some .boolean), Cond.methodLink RX4 48 yX3_take, Cond.instanceMethod yX3_take, Cond.selects RX3 yX3_take yX3_take, Cond.initialized RX3, Cond.code yX3_take cX3_take 3 none, Cond.fieldLink RX3 13 "DecimalRegistersModel$Row" "n" "I", Cond.fieldLink RX3 17 "DecimalRegistersModel$Row" "minus" "Z", Cond.fieldLink RX3 25 "DecimalRegistersModel$Row" "scale" "I", Cond.fieldLink RX3 7 "DecimalRegistersModel$Row" "d" "[I", Cond.methodLink RX4 113 yX4_cut, Cond.instanceMethod yX4_cut, Cond.selects RX4 yX4_cut yX4_cut, Cond.code yX4_cut cX4_cut 8 (some .boolean), Cond.fieldLink RX4 58 "DecimalRegistersModel$Row" "d" "[I", Cond.fieldLink RX4 61 "DecimalRegistersModel$Row" "minus" "Z", Cond.methodLink RX4 110 yX3_ends]
def wsX4_round_r2 : List Cond := [Cond.instanceMethod yX3_ends, Cond.selects RX3 yX3_ends yX3_ends, Cond.code yX3_ends cX3_ends 3 (some .boolean), Cond.methodLink RX4 103 yX4_turns, Cond.static yX4_turns, Cond.code yX4_turns cX4_turns 4 (some .boolean), Cond.methodLink RX4 107 yX3_more, Cond.instanceMethod yX3_more, Cond.selects RX3 yX3_more yX3_more, Cond.code yX3_more cX3_more 2 none, Cond.methodLink RX4 68 yX4_keep, Cond.instanceMethod yX4_keep, Cond.selects RX4 yX4_keep yX4_keep, Cond.code yX4_keep cX4_keep 3 (some .int), Cond.methodLink RX4 44 yX4_isScale, Cond.static yX4_isScale, Cond.code yX4_isScale cX4_isScale 2 (some .boolean), Cond.constantLong RX4 33 (-6), Cond.constantLong RX4 35 (6)]
def wsX4_round : List Cond := .code yX4_round cX4_round 6 (some .int) :: ((wsX4_round_r1 ++ wsX4_round_r2) ++ wsX40 ++ wsX30)
def wsX4_turn_r1 : List Cond := [Cond.fieldLink RX4 16 "DecimalRegistersModel" "a" "LDecimalRegistersModel$Row;", Cond.fieldLink RX4 9 "DecimalRegistersModel" "registers" "[LDecimalRegistersModel$Row;", Cond.fieldLink RX4 61 "DecimalRegistersModel$Row" "minus" "Z", Cond.fieldLink RX4 37 "DecimalRegistersModel$Row" "n" "I", Cond.fieldLink RX4 58 "DecimalRegistersModel$Row" "d" "[I", Cond.fieldLink RX4 41 "DecimalRegistersModel$Row" "scale" "I", Cond.methodLink RX4 52 yX4_is, Cond.static yX4_is, Cond.initialized RX4, Cond.code yX4_is cX4_is 1 (some .boolean), Cond.methodLink RX4 48 yX3_take, Cond.instanceMethod yX3_take, Cond.selects RX3 yX3_take yX3_take, Cond.initialized RX3, Cond.code yX3_take cX3_take 3 none, Cond.fieldLink RX3 13 "DecimalRegistersModel$Row" "n" "I", Cond.fieldLink RX3 17 "DecimalRegistersModel$Row" "minus" "Z", Cond.fieldLink RX3 25 "DecimalRegistersModel$Row" "scale" "I", Cond.fieldLink RX3 7 "DecimalRegistersModel$Row" "d" "[I", Cond.methodLink RX4 84 yX3_isZero, Cond.instanceMethod yX3_isZero, Cond.selects RX3 yX3_isZero yX3_isZero, Cond.code yX3_isZero cX3_isZero 1 (some .boolean), Cond.methodLink RX4 113 yX4_cut]
def wsX4_turn_r2 : List Cond := [Cond.instanceMethod yX4_cut, Cond.selects RX4 yX4_cut yX4_cut, Cond.code yX4_cut cX4_cut 8 (some .boolean), Cond.methodLink RX4 110 yX3_ends, Cond.instanceMethod yX3_ends, Cond.selects RX3 yX3_ends yX3_ends, Cond.code yX3_ends cX3_ends 3 (some .boolean), Cond.methodLink RX4 103 yX4_turns, Cond.static yX4_turns, Cond.code yX4_turns cX4_turns 4 (some .boolean), Cond.methodLink RX4 107 yX3_more, Cond.instanceMethod yX3_more, Cond.selects RX3 yX3_more yX3_more, Cond.code yX3_more cX3_more 2 none, Cond.methodLink RX4 68 yX4_keep, Cond.instanceMethod yX4_keep, Cond.selects RX4 yX4_keep yX4_keep, Cond.code yX4_keep cX4_keep 3 (some .int), Cond.methodLink RX4 44 yX4_isScale, Cond.static yX4_isScale, Cond.code yX4_isScale cX4_isScale 2 (some .boolean), Cond.constantLong RX4 33 (-6), Cond.constantLong RX4 35 (6)]
def wsX4_turn : List Cond := .code yX4_turn cX4_turn 5 (some .int) :: ((wsX4_turn_r1 ++ wsX4_turn_r2) ++ wsX40 ++ wsX30)
def wsX4_move_r1 : List Cond := [Cond.fieldLink RX4 16 "DecimalRegistersModel" "a" "LDecimalRegistersModel$Row;", Cond.fieldLink RX4 9 "DecimalRegistersModel" "registers" "[LDecimalRegistersModel$Row;", Cond.fieldLink RX4 41 "DecimalRegistersModel$Row" "scale" "I", Cond.methodLink RX4 52 yX4_is, Cond.static yX4_is, Cond.initialized RX4, Cond.code yX4_is cX4_is 1 (some .boolean), Cond.methodLink RX4 48 yX3_take, Cond.instanceMethod yX3_take, Cond.selects RX3 yX3_take yX3_take, Cond.initialized RX3, Cond.code yX3_take cX3_take 3 none, Cond.fieldLink RX3 13 "DecimalRegistersModel$Row" "n" "I", Cond.fieldLink RX3 17 "DecimalRegistersModel$Row" "minus" "Z", Cond.fieldLink RX3 25 "DecimalRegistersModel$Row" "scale" "I", Cond.fieldLink RX3 7 "DecimalRegistersModel$Row" "d" "[I", Cond.methodLink RX4 72 yX3_up, Cond.instanceMethod yX3_up, Cond.selects RX3 yX3_up yX3_up, Cond.code yX3_up cX3_up 3 none, Cond.methodLink RX3 21 yX3_isZero, Cond.instanceMethod yX3_isZero, Cond.selects RX3 yX3_isZero yX3_isZero, Cond.code yX3_isZero cX3_isZero 1 (some .boolean)]
def wsX4_move_r2 : List Cond := [Cond.methodLink RX4 68 yX4_keep, Cond.instanceMethod yX4_keep, Cond.selects RX4 yX4_keep yX4_keep, Cond.code yX4_keep cX4_keep 3 (some .int), Cond.fieldLink RX4 37 "DecimalRegistersModel$Row" "n" "I", Cond.methodLink RX4 44 yX4_isScale, Cond.static yX4_isScale, Cond.code yX4_isScale cX4_isScale 2 (some .boolean), Cond.constantLong RX4 33 (-6), Cond.constantLong RX4 35 (6)]
def wsX4_move : List Cond := .code yX4_move cX4_move 5 (some .int) :: ((wsX4_move_r1 ++ wsX4_move_r2) ++ wsX40 ++ wsX30)
def wsX4_power_r1 : List Cond := [Cond.fieldLink RX4 9 "DecimalRegistersModel" "registers" "[LDecimalRegistersModel$Row;", Cond.fieldLink RX4 37 "DecimalRegistersModel$Row" "n" "I", Cond.fieldLink RX4 16 "DecimalRegistersModel" "a" "LDecimalRegistersModel$Row;", Cond.fieldLink RX4 58 "DecimalRegistersModel$Row" "d" "[I", Cond.fieldLink RX4 41 "DecimalRegistersModel$Row" "scale" "I", Cond.fieldLink RX4 23 "DecimalRegistersModel" "c" "LDecimalRegistersModel$Row;", Cond.methodLink RX4 52 yX4_is, Cond.static yX4_is, Cond.initialized RX4, Cond.code yX4_is cX4_is 1 (some .boolean), Cond.methodLink RX4 117 yX3_zero, Cond.instanceMethod yX3_zero, Cond.selects RX3 yX3_zero yX3_zero, Cond.initialized RX3, Cond.code yX3_zero cX3_zero 1 none, Cond.fieldLink RX3 13 "DecimalRegistersModel$Row" "n" "I", Cond.fieldLink RX3 7 "DecimalRegistersModel$Row" "d" "[I", Cond.fieldLink RX3 17 "DecimalRegistersModel$Row" "minus" "Z", Cond.methodLink RX4 92 yX4_product, Cond.static yX4_product, Cond.code yX4_product cX4_product 7 none, Cond.fieldLink RX4 61 "DecimalRegistersModel$Row" "minus" "Z", Cond.methodLink RX4 65 yX3_trim, Cond.instanceMethod yX3_trim]
def wsX4_power_r2 : List Cond := [Cond.selects RX3 yX3_trim yX3_trim, Cond.code yX3_trim cX3_trim 1 none, Cond.methodLink RX3 21 yX3_isZero, Cond.instanceMethod yX3_isZero, Cond.selects RX3 yX3_isZero yX3_isZero, Cond.code yX3_isZero cX3_isZero 1 (some .boolean), Cond.methodLink RX4 48 yX3_take, Cond.instanceMethod yX3_take, Cond.selects RX3 yX3_take yX3_take, Cond.code yX3_take cX3_take 3 none, Cond.fieldLink RX3 25 "DecimalRegistersModel$Row" "scale" "I", Cond.methodLink RX4 68 yX4_keep, Cond.instanceMethod yX4_keep, Cond.selects RX4 yX4_keep yX4_keep, Cond.code yX4_keep cX4_keep 3 (some .int), Cond.methodLink RX4 44 yX4_isScale, Cond.static yX4_isScale, Cond.code yX4_isScale cX4_isScale 2 (some .boolean), Cond.constantLong RX4 33 (-6), Cond.constantLong RX4 35 (6)]
def wsX4_power : List Cond := .code yX4_power cX4_power 5 (some .int) :: ((wsX4_power_r1 ++ wsX4_power_r2) ++ wsX40 ++ wsX30)
def wsX4_compare_r1 : List Cond := [Cond.methodLink RX4 52 yX4_is, Cond.static yX4_is, Cond.initialized RX4, Cond.code yX4_is cX4_is 1 (some .boolean), Cond.methodLink RX4 88 yX4_order, Cond.instanceMethod yX4_order, Cond.selects RX4 yX4_order yX4_order, Cond.code yX4_order cX4_order 4 (some .int), Cond.fieldLink RX4 16 "DecimalRegistersModel" "a" "LDecimalRegistersModel$Row;", Cond.fieldLink RX4 61 "DecimalRegistersModel$Row" "minus" "Z", Cond.fieldLink RX4 20 "DecimalRegistersModel" "b" "LDecimalRegistersModel$Row;", Cond.methodLink RX4 76 yX4_align, Cond.instanceMethod yX4_align, Cond.selects RX4 yX4_align yX4_align, Cond.code yX4_align cX4_align 4 none, Cond.fieldLink RX4 9 "DecimalRegistersModel" "registers" "[LDecimalRegistersModel$Row;", Cond.fieldLink RX4 41 "DecimalRegistersModel$Row" "scale" "I", Cond.methodLink RX4 48 yX3_take, Cond.instanceMethod yX3_take, Cond.selects RX3 yX3_take yX3_take, Cond.initialized RX3, Cond.code yX3_take cX3_take 3 none, Cond.fieldLink RX3 13 "DecimalRegistersModel$Row" "n" "I", Cond.fieldLink RX3 17 "DecimalRegistersModel$Row" "minus" "Z"]
def wsX4_compare_r2 : List Cond := [Cond.fieldLink RX3 25 "DecimalRegistersModel$Row" "scale" "I", Cond.fieldLink RX3 7 "DecimalRegistersModel$Row" "d" "[I", Cond.methodLink RX4 72 yX3_up, Cond.instanceMethod yX3_up, Cond.selects RX3 yX3_up yX3_up, Cond.code yX3_up cX3_up 3 none, Cond.methodLink RX3 21 yX3_isZero, Cond.instanceMethod yX3_isZero, Cond.selects RX3 yX3_isZero yX3_isZero, Cond.code yX3_isZero cX3_isZero 1 (some .boolean), Cond.methodLink RX4 80 yX4_sizes, Cond.static yX4_sizes, Cond.code yX4_sizes cX4_sizes 3 (some .int), Cond.fieldLink RX4 37 "DecimalRegistersModel$Row" "n" "I", Cond.fieldLink RX4 58 "DecimalRegistersModel$Row" "d" "[I"]
def wsX4_compare : List Cond := .code yX4_compare cX4_compare 3 (some .int) :: ((wsX4_compare_r1 ++ wsX4_compare_r2) ++ wsX40 ++ wsX30)
def wsX4_same : List Cond := .code yX4_same cX4_same 5 (some .boolean) :: ([.fieldLink RX4 9 "DecimalRegistersModel" "registers" "[LDecimalRegistersModel$Row;", .fieldLink RX4 61 "DecimalRegistersModel$Row" "minus" "Z", .fieldLink RX4 41 "DecimalRegistersModel$Row" "scale" "I", .methodLink RX4 52 yX4_is, .static yX4_is, .initialized RX4, .code yX4_is cX4_is 1 (some .boolean), .methodLink RX4 80 yX4_sizes, .static yX4_sizes, .code yX4_sizes cX4_sizes 3 (some .int), .fieldLink RX4 37 "DecimalRegistersModel$Row" "n" "I", .fieldLink RX4 58 "DecimalRegistersModel$Row" "d" "[I"] ++ wsX40 ++ wsX30)
def wsX4_look : List Cond := .code yX4_look cX4_look 4 (some .int) :: ([.fieldLink RX4 9 "DecimalRegistersModel" "registers" "[LDecimalRegistersModel$Row;", .fieldLink RX4 61 "DecimalRegistersModel$Row" "minus" "Z", .fieldLink RX4 37 "DecimalRegistersModel$Row" "n" "I", .fieldLink RX4 41 "DecimalRegistersModel$Row" "scale" "I", .methodLink RX4 52 yX4_is, .static yX4_is, .initialized RX4, .code yX4_is cX4_is 1 (some .boolean), .methodLink RX4 84 yX3_isZero, .instanceMethod yX3_isZero, .selects RX3 yX3_isZero yX3_isZero, .initialized RX3, .code yX3_isZero cX3_isZero 1 (some .boolean), .fieldLink RX3 13 "DecimalRegistersModel$Row" "n" "I", .fieldLink RX3 7 "DecimalRegistersModel$Row" "d" "[I"] ++ wsX40 ++ wsX30)
def wsX4_digit : List Cond := .code yX4_digit cX4_digit 3 (some .int) :: ([.fieldLink RX4 9 "DecimalRegistersModel" "registers" "[LDecimalRegistersModel$Row;", .fieldLink RX4 37 "DecimalRegistersModel$Row" "n" "I", .fieldLink RX4 58 "DecimalRegistersModel$Row" "d" "[I", .methodLink RX4 52 yX4_is, .static yX4_is, .initialized RX4, .code yX4_is cX4_is 1 (some .boolean)] ++ wsX40 ++ wsX30)
def wsX4_whole : List Cond := .code yX4_whole cX4_whole 7 (some .long) :: ([.fieldLink RX4 9 "DecimalRegistersModel" "registers" "[LDecimalRegistersModel$Row;", .fieldLink RX4 41 "DecimalRegistersModel$Row" "scale" "I", .fieldLink RX4 37 "DecimalRegistersModel$Row" "n" "I", .constantLong RX4 56 (10), .fieldLink RX4 58 "DecimalRegistersModel$Row" "d" "[I", .fieldLink RX4 61 "DecimalRegistersModel$Row" "minus" "Z", .methodLink RX4 52 yX4_is, .static yX4_is, .initialized RX4, .code yX4_is cX4_is 1 (some .boolean)] ++ wsX40 ++ wsX30)
def wsX4_sign : List Cond := .code yX4_sign cX4_sign 2 none :: ([.fieldLink RX4 29 "DecimalRegistersModel" "text" "[I", .fieldLink RX4 120 "DecimalRegistersModel" "length" "I"] ++ wsX40)
def wsX4_write : List Cond := .code yX4_write cX4_write 4 (some .int) :: ([.fieldLink RX4 9 "DecimalRegistersModel" "registers" "[LDecimalRegistersModel$Row;", .fieldLink RX4 120 "DecimalRegistersModel" "length" "I", .fieldLink RX4 61 "DecimalRegistersModel$Row" "minus" "Z", .fieldLink RX4 37 "DecimalRegistersModel$Row" "n" "I", .fieldLink RX4 41 "DecimalRegistersModel$Row" "scale" "I", .fieldLink RX4 58 "DecimalRegistersModel$Row" "d" "[I", .methodLink RX4 52 yX4_is, .static yX4_is, .initialized RX4, .code yX4_is cX4_is 1 (some .boolean), .methodLink RX4 123 yX4_sign, .instanceMethod yX4_sign, .selects RX4 yX4_sign yX4_sign, .code yX4_sign cX4_sign 2 none, .fieldLink RX4 29 "DecimalRegistersModel" "text" "[I", .methodLink RX4 84 yX3_isZero, .instanceMethod yX3_isZero, .selects RX3 yX3_isZero yX3_isZero, .initialized RX3, .code yX3_isZero cX3_isZero 1 (some .boolean), .fieldLink RX3 13 "DecimalRegistersModel$Row" "n" "I", .fieldLink RX3 7 "DecimalRegistersModel$Row" "d" "[I"] ++ wsX40 ++ wsX30)
def wsX4_octet : List Cond := .code yX4_octet cX4_octet 2 (some .int) :: ([.fieldLink RX4 120 "DecimalRegistersModel" "length" "I", .fieldLink RX4 29 "DecimalRegistersModel" "text" "[I"] ++ wsX40)
def wsJ9_abs_067f4 : List Cond := .code yJ9_abs_067f4 cJ9_abs_067f4 2 (some .long) :: ([])
def wsJ9_max_7cf53 : List Cond := .code yJ9_max_7cf53 cJ9_max_7cf53 2 (some .int) :: ([])
def wsL_law_r1 : List Cond := [Cond.classLink RL 7 RX2, Cond.instantiable RX2 7, Cond.initialized RX2, Cond.classLink RL 10 RX4, Cond.instantiable RX4 7, Cond.initialized RX4, Cond.constantLong RL 13 (4294967295), Cond.methodLink RL 9 yX2_init, Cond.instanceMethod yX2_init, Cond.code yX2_init cX2_init 2 none, Cond.methodLink RX2 1 objectInit, Cond.instanceMethod objectInit, Cond.code objectInit ⟨#[0xb1]⟩ 1 none, Cond.classLink RX2 9 RX0, Cond.fieldLink RX2 11 "DecimalRegisters" "registers" "[LDecimalRegisters$Decimal;", Cond.instantiable RX0 3, Cond.initialized RX0, Cond.fieldLink RX2 16 "DecimalRegisters" "result" "LDecimalRegisters$Decimal;", Cond.fieldLink RX2 20 "DecimalRegisters" "one" "LDecimalRegisters$Decimal;", Cond.fieldLink RX2 23 "DecimalRegisters$Decimal" "digits" "LDecimalRegisters$Natural;", Cond.classLink RX2 28 RX1, Cond.instantiable RX1 2, Cond.initialized RX1, Cond.fieldLink RX2 34 "DecimalRegisters" "top" "LDecimalRegisters$Natural;"]
def wsL_law_r2 : List Cond := [Cond.fieldLink RX2 37 "DecimalRegisters" "bottom" "LDecimalRegisters$Natural;", Cond.arrayClass .char, Cond.fieldLink RX2 40 "DecimalRegisters" "text" "[C", Cond.fieldLink RX2 44 "DecimalRegisters" "textLength" "I", Cond.instanceMethod yX0_init, Cond.code yX0_init cX0_init 1 none, Cond.methodLink RX0 1 objectInit, Cond.classLink RX0 7 RX1, Cond.fieldLink RX0 10 "DecimalRegisters$Decimal" "digits" "LDecimalRegisters$Natural;", Cond.instanceMethod yX1_init, Cond.code yX1_init cX1_init 1 none, Cond.methodLink RX1 1 objectInit, Cond.arrayClass .long, Cond.fieldLink RX1 9 "DecimalRegisters$Natural" "limbs" "[J", Cond.methodLink RX2 27 yX1_becomeSizeOf, Cond.instanceMethod yX1_becomeSizeOf, Cond.selects RX1 yX1_becomeSizeOf yX1_becomeSizeOf, Cond.code yX1_becomeSizeOf cX1_becomeSizeOf 6 none, Cond.constantLong RX1 26 (1000000), Cond.methodLink RX1 28 Lib.MathLoose.abs_long.x, Cond.static Lib.MathLoose.abs_long.x, Cond.initialized "java/lang/Math", Cond.code Lib.MathLoose.abs_long.x Lib.MathLoose.abs_long.code 2 (some .long), Cond.fieldLink RX1 13 "DecimalRegisters$Natural" "size" "I"]
def wsL_law_r3 : List Cond := [Cond.methodLink RX1 23 yX1_clear, Cond.instanceMethod yX1_clear, Cond.selects RX1 yX1_clear yX1_clear, Cond.code yX1_clear cX1_clear 2 none, Cond.methodLink RL 12 yX4_init, Cond.instanceMethod yX4_init, Cond.code yX4_init cX4_init 2 none, Cond.methodLink RX4 1 objectInit, Cond.classLink RX4 7 RX3, Cond.fieldLink RX4 9 "DecimalRegistersModel" "registers" "[LDecimalRegistersModel$Row;", Cond.instantiable RX3 4, Cond.initialized RX3, Cond.fieldLink RX4 16 "DecimalRegistersModel" "a" "LDecimalRegistersModel$Row;", Cond.fieldLink RX4 20 "DecimalRegistersModel" "b" "LDecimalRegistersModel$Row;", Cond.fieldLink RX4 23 "DecimalRegistersModel" "c" "LDecimalRegistersModel$Row;", Cond.fieldLink RX4 26 "DecimalRegistersModel" "e" "LDecimalRegistersModel$Row;", Cond.arrayClass .int, Cond.fieldLink RX4 29 "DecimalRegistersModel" "text" "[I", Cond.instanceMethod yX3_init, Cond.code yX3_init cX3_init 1 none, Cond.methodLink RX3 1 objectInit, Cond.fieldLink RX3 7 "DecimalRegistersModel$Row" "d" "[I", Cond.fieldLink RX3 13 "DecimalRegistersModel$Row" "n" "I", Cond.methodLink RL 15 yX2_load]
def wsL_law_r4 : List Cond := [Cond.instanceMethod yX2_load, Cond.selects RX2 yX2_load yX2_load, Cond.code yX2_load cX2_load 5 (some .int), Cond.fieldLink RX2 52 "DecimalRegisters$Decimal" "minus" "Z", Cond.fieldLink RX2 56 "DecimalRegisters$Decimal" "scale" "I", Cond.methodLink RX2 48 yX2_isRegister, Cond.static yX2_isRegister, Cond.code yX2_isRegister cX2_isRegister 1 (some .boolean), Cond.methodLink RX2 59 yX2_keep, Cond.instanceMethod yX2_keep, Cond.selects RX2 yX2_keep yX2_keep, Cond.code yX2_keep cX2_keep 3 (some .int), Cond.methodLink RX2 114 yX1_precision, Cond.instanceMethod yX1_precision, Cond.selects RX1 yX1_precision yX1_precision, Cond.code yX1_precision cX1_precision 2 (some .int), Cond.methodLink RX1 38 Lib.Math.max.name, Cond.static Lib.Math.max.name, Cond.code Lib.Math.max.name Lib.Math.max.code 2 (some .int), Cond.methodLink RX1 34 yX1_figure, Cond.instanceMethod yX1_figure, Cond.selects RX1 yX1_figure yX1_figure, Cond.code yX1_figure cX1_figure 3 (some .int), Cond.fieldLink RX1 42 "DecimalRegisters$Natural" "TENS" "[J"]
def wsL_law_r5 : List Cond := [Cond.constantLong RX1 45 (10), Cond.methodLink RX2 150 yX2_isScale, Cond.static yX2_isScale, Cond.code yX2_isScale cX2_isScale 1 (some .boolean), Cond.methodLink RX2 63 yX0_become, Cond.instanceMethod yX0_become, Cond.selects RX0 yX0_become yX0_become, Cond.code yX0_become cX0_become 2 none, Cond.fieldLink RX0 16 "DecimalRegisters$Decimal" "minus" "Z", Cond.fieldLink RX0 20 "DecimalRegisters$Decimal" "scale" "I", Cond.methodLink RX0 24 yX0_take, Cond.instanceMethod yX0_take, Cond.selects RX0 yX0_take yX0_take, Cond.code yX0_take cX0_take 4 none, Cond.methodLink RX0 28 yX1_become, Cond.instanceMethod yX1_become, Cond.selects RX1 yX1_become yX1_become, Cond.code yX1_become cX1_become 2 none, Cond.methodLink RX1 17 arraycopyName, Cond.native arraycopyName, Cond.static arraycopyName, Cond.initialized "java/lang/System", Cond.methodLink RX0 32 yX1_isZero, Cond.instanceMethod yX1_isZero]
def wsL_law_r6 : List Cond := [Cond.selects RX1 yX1_isZero yX1_isZero, Cond.code yX1_isZero cX1_isZero 1 (some .boolean), Cond.methodLink RL 19 yX4_load, Cond.instanceMethod yX4_load, Cond.selects RX4 yX4_load yX4_load, Cond.code yX4_load cX4_load 10 (some .int), Cond.fieldLink RX4 37 "DecimalRegistersModel$Row" "n" "I", Cond.constantLong RX4 56 (10), Cond.fieldLink RX4 58 "DecimalRegistersModel$Row" "d" "[I", Cond.fieldLink RX4 61 "DecimalRegistersModel$Row" "minus" "Z", Cond.fieldLink RX4 41 "DecimalRegistersModel$Row" "scale" "I", Cond.methodLink RX4 52 yX4_is, Cond.static yX4_is, Cond.code yX4_is cX4_is 1 (some .boolean), Cond.methodLink RX4 44 yX4_isScale, Cond.static yX4_isScale, Cond.code yX4_isScale cX4_isScale 2 (some .boolean), Cond.constantLong RX4 33 (-6), Cond.constantLong RX4 35 (6), Cond.methodLink RL 20 yX2_push, Cond.instanceMethod yX2_push, Cond.selects RX2 yX2_push yX2_push, Cond.code yX2_push cX2_push 4 (some .int), Cond.constantLong RX2 71 (1000000000000000000)]
def wsL_law_r7 : List Cond := [Cond.methodLink RX2 67 yX1_raise, Cond.instanceMethod yX1_raise, Cond.selects RX1 yX1_raise yX1_raise, Cond.code yX1_raise cX1_raise 10 none, Cond.methodLink RX1 47 yX1_close, Cond.instanceMethod yX1_close, Cond.selects RX1 yX1_close yX1_close, Cond.code yX1_close cX1_close 4 none, Cond.methodLink RX1 54 yX1_shift, Cond.instanceMethod yX1_shift, Cond.selects RX1 yX1_shift yX1_shift, Cond.code yX1_shift cX1_shift 3 none, Cond.methodLink RX2 73 yX1_add, Cond.instanceMethod yX1_add, Cond.selects RX1 yX1_add yX1_add, Cond.code yX1_add cX1_add 8 none, Cond.methodLink RL 24 yX4_push, Cond.instanceMethod yX4_push, Cond.selects RX4 yX4_push yX4_push, Cond.code yX4_push cX4_push 9 (some .int), Cond.methodLink RX4 48 yX3_take, Cond.instanceMethod yX3_take, Cond.selects RX3 yX3_take yX3_take, Cond.code yX3_take cX3_take 3 none]
def wsL_law_r8 : List Cond := [Cond.fieldLink RX3 17 "DecimalRegistersModel$Row" "minus" "Z", Cond.fieldLink RX3 25 "DecimalRegistersModel$Row" "scale" "I", Cond.methodLink RX4 65 yX3_trim, Cond.instanceMethod yX3_trim, Cond.selects RX3 yX3_trim yX3_trim, Cond.code yX3_trim cX3_trim 1 none, Cond.methodLink RX3 21 yX3_isZero, Cond.instanceMethod yX3_isZero, Cond.selects RX3 yX3_isZero yX3_isZero, Cond.code yX3_isZero cX3_isZero 1 (some .boolean), Cond.methodLink RX4 68 yX4_keep, Cond.instanceMethod yX4_keep, Cond.selects RX4 yX4_keep yX4_keep, Cond.code yX4_keep cX4_keep 3 (some .int), Cond.methodLink RL 25 yX2_reckon, Cond.instanceMethod yX2_reckon, Cond.selects RX2 yX2_reckon yX2_reckon, Cond.code yX2_reckon cX2_reckon 7 (some .int), Cond.methodLink RX2 77 yX2_addUp, Cond.instanceMethod yX2_addUp, Cond.selects RX2 yX2_addUp yX2_addUp, Cond.code yX2_addUp cX2_addUp 5 none, Cond.methodLink RX2 100 Lib.Math.max.name, Cond.methodLink RX2 155 yX2_align]
def wsL_law_r9 : List Cond := [Cond.instanceMethod yX2_align, Cond.selects RX2 yX2_align yX2_align, Cond.code yX2_align cX2_align 5 none, Cond.methodLink RX2 153 yX1_become, Cond.methodLink RX2 110 yX0_take, Cond.methodLink RX2 127 yX1_order, Cond.instanceMethod yX1_order, Cond.selects RX1 yX1_order yX1_order, Cond.code yX1_order cX1_order 3 (some .int), Cond.methodLink RX2 169 yX1_subtract, Cond.instanceMethod yX1_subtract, Cond.selects RX1 yX1_subtract yX1_subtract, Cond.code yX1_subtract cX1_subtract 7 none, Cond.methodLink RX1 51 yX1_shrink, Cond.instanceMethod yX1_shrink, Cond.selects RX1 yX1_shrink yX1_shrink, Cond.code yX1_shrink cX1_shrink 1 none, Cond.methodLink RX2 81 yX2_multiply, Cond.instanceMethod yX2_multiply, Cond.selects RX2 yX2_multiply yX2_multiply, Cond.code yX2_multiply cX2_multiply 3 none, Cond.methodLink RX2 172 yX1_becomeProduct, Cond.instanceMethod yX1_becomeProduct, Cond.selects RX1 yX1_becomeProduct yX1_becomeProduct]
def wsL_law_r10 : List Cond := [Cond.code yX1_becomeProduct cX1_becomeProduct 9 none, Cond.methodLink RX2 85 yX2_order, Cond.instanceMethod yX2_order, Cond.selects RX2 yX2_order yX2_order, Cond.code yX2_order cX2_order 3 (some .int), Cond.methodLink RX2 130 yX0_sign, Cond.instanceMethod yX0_sign, Cond.selects RX0 yX0_sign yX0_sign, Cond.code yX0_sign cX0_sign 1 (some .int), Cond.methodLink RL 29 yX4_reckon, Cond.instanceMethod yX4_reckon, Cond.selects RX4 yX4_reckon yX4_reckon, Cond.code yX4_reckon cX4_reckon 7 (some .int), Cond.methodLink RX4 88 yX4_order, Cond.instanceMethod yX4_order, Cond.selects RX4 yX4_order yX4_order, Cond.code yX4_order cX4_order 4 (some .int), Cond.methodLink RX4 76 yX4_align, Cond.instanceMethod yX4_align, Cond.selects RX4 yX4_align yX4_align, Cond.code yX4_align cX4_align 4 none, Cond.methodLink RX4 72 yX3_up, Cond.instanceMethod yX3_up, Cond.selects RX3 yX3_up yX3_up]
def wsL_law_r11 : List Cond := [Cond.code yX3_up cX3_up 3 none, Cond.methodLink RX4 80 yX4_sizes, Cond.static yX4_sizes, Cond.code yX4_sizes cX4_sizes 3 (some .int), Cond.methodLink RX4 92 yX4_product, Cond.static yX4_product, Cond.code yX4_product cX4_product 7 none, Cond.methodLink RX4 96 yX4_sum, Cond.instanceMethod yX4_sum, Cond.selects RX4 yX4_sum yX4_sum, Cond.code yX4_sum cX4_sum 8 none, Cond.methodLink RX4 84 yX3_isZero, Cond.methodLink RL 30 yX2_divide, Cond.instanceMethod yX2_divide, Cond.selects RX2 yX2_divide yX2_divide, Cond.code yX2_divide cX2_divide 6 (some .int), Cond.methodLink RX2 89 yX2_isWay, Cond.static yX2_isWay, Cond.code yX2_isWay cX2_isWay 1 (some .boolean), Cond.methodLink RX2 92 yX1_isZero, Cond.methodLink RX2 96 yX2_keepQuotient, Cond.instanceMethod yX2_keepQuotient, Cond.selects RX2 yX2_keepQuotient yX2_keepQuotient, Cond.code yX2_keepQuotient cX2_keepQuotient 6 (some .int)]
def wsL_law_r12 : List Cond := [Cond.methodLink RX2 106 yX2_split, Cond.instanceMethod yX2_split, Cond.selects RX2 yX2_split yX2_split, Cond.code yX2_split cX2_split 4 none, Cond.methodLink RX2 158 yX1_takeOut, Cond.instanceMethod yX1_takeOut, Cond.selects RX1 yX1_takeOut yX1_takeOut, Cond.code yX1_takeOut cX1_takeOut 7 none, Cond.constantLong RX1 66 (-1), Cond.methodLink RX1 58 yX1_guess, Cond.instanceMethod yX1_guess, Cond.selects RX1 yX1_guess yX1_guess, Cond.code yX1_guess cX1_guess 8 (some .long), Cond.methodLink RX1 62 yX1_takeAway, Cond.instanceMethod yX1_takeAway, Cond.selects RX1 yX1_takeAway yX1_takeAway, Cond.code yX1_takeAway cX1_takeAway 10 none, Cond.methodLink RX1 68 yJ9_floorDiv_f86c9, Cond.static yJ9_floorDiv_f86c9, Cond.initialized RJ9, Cond.code yJ9_floorDiv_f86c9 cJ9_floorDiv_f86c9 6 (some .long), Cond.methodLink RX2 121 yX2_settle, Cond.instanceMethod yX2_settle, Cond.selects RX2 yX2_settle yX2_settle]
def wsL_law_r13 : List Cond := [Cond.code yX2_settle cX2_settle 2 (some .boolean), Cond.methodLink RX2 162 yX2_isAwayFromZero, Cond.instanceMethod yX2_isAwayFromZero, Cond.selects RX2 yX2_isAwayFromZero yX2_isAwayFromZero, Cond.code yX2_isAwayFromZero cX2_isAwayFromZero 3 (some .boolean), Cond.methodLink RX2 133 yX1_figure, Cond.methodLink RL 34 yX4_divide, Cond.instanceMethod yX4_divide, Cond.selects RX4 yX4_divide yX4_divide, Cond.code yX4_divide cX4_divide 11 (some .int), Cond.methodLink RX4 100 yX4_over, Cond.instanceMethod yX4_over, Cond.selects RX4 yX4_over yX4_over, Cond.code yX4_over cX4_over 6 none, Cond.methodLink RX4 103 yX4_turns, Cond.static yX4_turns, Cond.code yX4_turns cX4_turns 4 (some .boolean), Cond.methodLink RX4 107 yX3_more, Cond.instanceMethod yX3_more, Cond.selects RX3 yX3_more yX3_more, Cond.code yX3_more cX3_more 2 none, Cond.methodLink RL 35 yX2_part, Cond.instanceMethod yX2_part, Cond.selects RX2 yX2_part yX2_part]
def wsL_law_r14 : List Cond := [Cond.code yX2_part cX2_part 10 (some .int), Cond.methodLink RL 38 yX4_part, Cond.instanceMethod yX4_part, Cond.selects RX4 yX4_part yX4_part, Cond.code yX4_part cX4_part 7 (some .int), Cond.methodLink RL 39 yX2_scale, Cond.instanceMethod yX2_scale, Cond.selects RX2 yX2_scale yX2_scale, Cond.code yX2_scale cX2_scale 5 (some .int), Cond.methodLink RL 42 yX4_scale, Cond.instanceMethod yX4_scale, Cond.selects RX4 yX4_scale yX4_scale, Cond.code yX4_scale cX4_scale 5 (some .int), Cond.methodLink RX4 113 yX4_cut, Cond.instanceMethod yX4_cut, Cond.selects RX4 yX4_cut yX4_cut, Cond.code yX4_cut cX4_cut 8 (some .boolean), Cond.methodLink RX4 110 yX3_ends, Cond.instanceMethod yX3_ends, Cond.selects RX3 yX3_ends yX3_ends, Cond.code yX3_ends cX3_ends 3 (some .boolean), Cond.methodLink RL 43 yX2_round, Cond.instanceMethod yX2_round, Cond.selects RX2 yX2_round yX2_round]
def wsL_law_r15 : List Cond := [Cond.code yX2_round cX2_round 7 (some .int), Cond.methodLink RX2 118 yX2_cutOff, Cond.instanceMethod yX2_cutOff, Cond.selects RX2 yX2_cutOff yX2_cutOff, Cond.code yX2_cutOff cX2_cutOff 2 none, Cond.methodLink RL 46 yX4_round, Cond.instanceMethod yX4_round, Cond.selects RX4 yX4_round yX4_round, Cond.code yX4_round cX4_round 6 (some .int), Cond.methodLink RL 47 yX2_turn, Cond.instanceMethod yX2_turn, Cond.selects RX2 yX2_turn yX2_turn, Cond.code yX2_turn cX2_turn 4 (some .int), Cond.methodLink RX2 124 yX2_cutOffZeros, Cond.instanceMethod yX2_cutOffZeros, Cond.selects RX2 yX2_cutOffZeros yX2_cutOffZeros, Cond.code yX2_cutOffZeros cX2_cutOffZeros 1 none, Cond.methodLink RX2 166 yX1_zerosAtEnd, Cond.instanceMethod yX1_zerosAtEnd, Cond.selects RX1 yX1_zerosAtEnd yX1_zerosAtEnd, Cond.code yX1_zerosAtEnd cX1_zerosAtEnd 3 (some .int), Cond.methodLink RL 51 yX4_turn, Cond.instanceMethod yX4_turn, Cond.selects RX4 yX4_turn yX4_turn]
def wsL_law_r16 : List Cond := [Cond.code yX4_turn cX4_turn 5 (some .int), Cond.methodLink RL 52 yX2_move, Cond.instanceMethod yX2_move, Cond.selects RX2 yX2_move yX2_move, Cond.code yX2_move cX2_move 5 (some .int), Cond.methodLink RL 55 yX4_move, Cond.instanceMethod yX4_move, Cond.selects RX4 yX4_move yX4_move, Cond.code yX4_move cX4_move 5 (some .int), Cond.methodLink RL 56 yX2_power, Cond.instanceMethod yX2_power, Cond.selects RX2 yX2_power yX2_power, Cond.code yX2_power cX2_power 6 (some .int), Cond.methodLink RL 59 yX4_power, Cond.instanceMethod yX4_power, Cond.selects RX4 yX4_power yX4_power, Cond.code yX4_power cX4_power 5 (some .int), Cond.methodLink RX4 117 yX3_zero, Cond.instanceMethod yX3_zero, Cond.selects RX3 yX3_zero yX3_zero, Cond.code yX3_zero cX3_zero 1 none, Cond.methodLink RL 60 yX2_compare, Cond.instanceMethod yX2_compare, Cond.selects RX2 yX2_compare yX2_compare]
def wsL_law_r17 : List Cond := [Cond.code yX2_compare cX2_compare 3 (some .int), Cond.methodLink RL 64 yX4_compare, Cond.instanceMethod yX4_compare, Cond.selects RX4 yX4_compare yX4_compare, Cond.code yX4_compare cX4_compare 3 (some .int), Cond.methodLink RL 65 yX2_same, Cond.instanceMethod yX2_same, Cond.selects RX2 yX2_same yX2_same, Cond.code yX2_same cX2_same 5 (some .boolean), Cond.methodLink RL 69 yX4_same, Cond.instanceMethod yX4_same, Cond.selects RX4 yX4_same yX4_same, Cond.code yX4_same cX4_same 5 (some .boolean), Cond.methodLink RL 70 yX2_look, Cond.instanceMethod yX2_look, Cond.selects RX2 yX2_look yX2_look, Cond.code yX2_look cX2_look 3 (some .int), Cond.methodLink RL 73 yX4_look, Cond.instanceMethod yX4_look, Cond.selects RX4 yX4_look yX4_look, Cond.code yX4_look cX4_look 4 (some .int), Cond.methodLink RL 74 yX2_digit, Cond.instanceMethod yX2_digit, Cond.selects RX2 yX2_digit yX2_digit]
def wsL_law_r18 : List Cond := [Cond.code yX2_digit cX2_digit 3 (some .int), Cond.methodLink RL 77 yX4_digit, Cond.instanceMethod yX4_digit, Cond.selects RX4 yX4_digit yX4_digit, Cond.code yX4_digit cX4_digit 3 (some .int), Cond.methodLink RL 78 yX2_whole, Cond.instanceMethod yX2_whole, Cond.selects RX2 yX2_whole yX2_whole, Cond.code yX2_whole cX2_whole 4 (some .long), Cond.methodLink RX2 136 yX1_lowestBits, Cond.instanceMethod yX1_lowestBits, Cond.selects RX1 yX1_lowestBits yX1_lowestBits, Cond.code yX1_lowestBits cX1_lowestBits 4 (some .long), Cond.methodLink RL 82 yX4_whole, Cond.instanceMethod yX4_whole, Cond.selects RX4 yX4_whole yX4_whole, Cond.code yX4_whole cX4_whole 7 (some .long), Cond.methodLink RL 83 yX2_write, Cond.instanceMethod yX2_write, Cond.selects RX2 yX2_write yX2_write, Cond.code yX2_write cX2_write 3 (some .int), Cond.methodLink RX2 140 yX2_append, Cond.instanceMethod yX2_append, Cond.selects RX2 yX2_append yX2_append]
def wsL_law_r19 : List Cond := [Cond.code yX2_append cX2_append 2 none, Cond.methodLink RX2 144 yX2_appendFigures, Cond.instanceMethod yX2_appendFigures, Cond.selects RX2 yX2_appendFigures yX2_appendFigures, Cond.code yX2_appendFigures cX2_appendFigures 3 none, Cond.methodLink RX2 147 yX2_appendZeros, Cond.instanceMethod yX2_appendZeros, Cond.selects RX2 yX2_appendZeros yX2_appendZeros, Cond.code yX2_appendZeros cX2_appendZeros 3 none, Cond.methodLink RL 87 yX4_write, Cond.instanceMethod yX4_write, Cond.selects RX4 yX4_write yX4_write, Cond.code yX4_write cX4_write 4 (some .int), Cond.fieldLink RX4 120 "DecimalRegistersModel" "length" "I", Cond.methodLink RX4 123 yX4_sign, Cond.instanceMethod yX4_sign, Cond.selects RX4 yX4_sign yX4_sign, Cond.code yX4_sign cX4_sign 2 none, Cond.methodLink RL 88 yX2_octet, Cond.instanceMethod yX2_octet, Cond.selects RX2 yX2_octet yX2_octet, Cond.code yX2_octet cX2_octet 2 (some .int), Cond.methodLink RL 91 yX4_octet, Cond.instanceMethod yX4_octet]
def wsL_law_r20 : List Cond := [Cond.selects RX4 yX4_octet yX4_octet, Cond.code yX4_octet cX4_octet 2 (some .int)]
def wsL_law : List Cond := (wsL_law_r1 ++ (wsL_law_r2 ++ (wsL_law_r3 ++ (wsL_law_r4 ++ (wsL_law_r5 ++ (wsL_law_r6 ++ (wsL_law_r7 ++ (wsL_law_r8 ++ (wsL_law_r9 ++ (wsL_law_r10 ++ (wsL_law_r11 ++ (wsL_law_r12 ++ (wsL_law_r13 ++ (wsL_law_r14 ++ (wsL_law_r15 ++ (wsL_law_r16 ++ (wsL_law_r17 ++ (wsL_law_r18 ++ (wsL_law_r19 ++ wsL_law_r20))))))))))))))))))) ++ wsX20 ++ wsX40 ++ wsX00 ++ wsX10 ++ wsX30 ++ ([] : List Cond)
abbrev vwCl : List vw_C := [(RX0, TX0, 3), (RX1, TX1, 2), (RX2, TX2, 7), (RX3, TX3, 4), (RX4, TX4, 7)]
set_option maxRecDepth 20000 in
theorem ggX0_init_X1_init : GoodIn wsX0_init wsX1_init := goodIn_r _ [9, 10, 2, 3, 11, 12, 13, 14] (by decide +kernel) (by decide +kernel)
set_option maxRecDepth 20000 in
theorem gX0_init_X1_init_n9 : GoodIn wsX0_init (wsX1_init) := ggX0_init_X1_init
theorem dX0_init_0 : decode cX0_init 0 = .ok (.aload_n 0, 1) := by decide +kernel
theorem dX0_init_1 : decode cX0_init 1 = .ok (.invokespecial 1, 3) := by decide +kernel
theorem dX0_init_4 : decode cX0_init 4 = .ok (.aload_n 0, 1) := by decide +kernel
theorem dX0_init_5 : decode cX0_init 5 = .ok (.new 7, 3) := by decide +kernel
theorem dX0_init_8 : decode cX0_init 8 = .ok (.dup, 1) := by decide +kernel
theorem dX0_init_9 : decode cX0_init 9 = .ok (.invokespecial 9, 3) := by decide +kernel
theorem dX0_init_12 : decode cX0_init 12 = .ok (.putfield 10, 3) := by decide +kernel
theorem dX0_init_15 : decode cX0_init 15 = .ok (.return_, 1) := by decide +kernel
set_option maxRecDepth 20000 in
theorem ggX0_become_X0_take : GoodIn wsX0_become wsX0_take := goodIn_r _ [8, 1, 2, 3, 9, 10, 11, 12, 13, 14, 15, 16, 17, 18, 19, 20, 21, 22, 23, 24, 25, 26, 27, 28] (by decide +kernel) (by decide +kernel)
set_option maxRecDepth 20000 in
theorem gX0_become_X0_take : GoodIn wsX0_become (wsV RX0 24 RX0 yX0_take wsX0_take) := goodIn_app (goodIn_of _ (by decide +kernel)) ggX0_become_X0_take
theorem dX0_become_0 : decode cX0_become 0 = .ok (.aload_n 0, 1) := by decide +kernel
theorem dX0_become_1 : decode cX0_become 1 = .ok (.aload_n 1, 1) := by decide +kernel
theorem dX0_become_2 : decode cX0_become 2 = .ok (.getfield 10, 3) := by decide +kernel
theorem dX0_become_5 : decode cX0_become 5 = .ok (.aload_n 1, 1) := by decide +kernel
theorem dX0_become_6 : decode cX0_become 6 = .ok (.getfield 16, 3) := by decide +kernel
theorem dX0_become_9 : decode cX0_become 9 = .ok (.aload_n 1, 1) := by decide +kernel
theorem dX0_become_10 : decode cX0_become 10 = .ok (.getfield 20, 3) := by decide +kernel
theorem dX0_become_13 : decode cX0_become 13 = .ok (.invokevirtual 24, 3) := by decide +kernel
theorem dX0_become_16 : decode cX0_become 16 = .ok (.return_, 1) := by decide +kernel
set_option maxRecDepth 20000 in
theorem ggX0_take_X1_become : GoodIn wsX0_take wsX1_become := goodIn_r _ [8, 9, 10, 11, 12, 13, 14, 22, 23] (by decide +kernel) (by decide +kernel)
set_option maxRecDepth 20000 in
theorem gX0_take_X1_become : GoodIn wsX0_take (wsV RX0 28 RX1 yX1_become wsX1_become) := goodIn_app (goodIn_of _ (by decide +kernel)) ggX0_take_X1_become
set_option maxRecDepth 20000 in
theorem ggX0_take_X1_isZero : GoodIn wsX0_take wsX1_isZero := goodIn_r _ [18, 14, 22, 23] (by decide +kernel) (by decide +kernel)
set_option maxRecDepth 20000 in
theorem gX0_take_X1_isZero : GoodIn wsX0_take (wsV RX0 32 RX1 yX1_isZero wsX1_isZero) := goodIn_app (goodIn_of _ (by decide +kernel)) ggX0_take_X1_isZero
theorem dX0_take_0 : decode cX0_take 0 = .ok (.aload_n 0, 1) := by decide +kernel
theorem dX0_take_1 : decode cX0_take 1 = .ok (.getfield 10, 3) := by decide +kernel
theorem dX0_take_4 : decode cX0_take 4 = .ok (.aload_n 1, 1) := by decide +kernel
theorem dX0_take_5 : decode cX0_take 5 = .ok (.invokevirtual 28, 3) := by decide +kernel
theorem dX0_take_8 : decode cX0_take 8 = .ok (.aload_n 0, 1) := by decide +kernel
theorem dX0_take_9 : decode cX0_take 9 = .ok (.iload_n 2, 1) := by decide +kernel
theorem dX0_take_10 : decode cX0_take 10 = .ok (.ifCond .eq 14, 3) := by decide +kernel
theorem dX0_take_13 : decode cX0_take 13 = .ok (.aload_n 1, 1) := by decide +kernel
theorem dX0_take_14 : decode cX0_take 14 = .ok (.invokevirtual 32, 3) := by decide +kernel
theorem dX0_take_17 : decode cX0_take 17 = .ok (.ifCond .ne 7, 3) := by decide +kernel
theorem dX0_take_20 : decode cX0_take 20 = .ok (.iconst 1, 1) := by decide +kernel
theorem dX0_take_21 : decode cX0_take 21 = .ok (.goto 4, 3) := by decide +kernel
theorem dX0_take_24 : decode cX0_take 24 = .ok (.iconst 0, 1) := by decide +kernel
theorem dX0_take_25 : decode cX0_take 25 = .ok (.putfield 16, 3) := by decide +kernel
theorem dX0_take_28 : decode cX0_take 28 = .ok (.aload_n 0, 1) := by decide +kernel
theorem dX0_take_29 : decode cX0_take 29 = .ok (.iload_n 3, 1) := by decide +kernel
theorem dX0_take_30 : decode cX0_take 30 = .ok (.putfield 20, 3) := by decide +kernel
theorem dX0_take_33 : decode cX0_take 33 = .ok (.return_, 1) := by decide +kernel
set_option maxRecDepth 20000 in
theorem ggX0_sign_X1_isZero : GoodIn wsX0_sign wsX1_isZero := goodIn_r _ [7, 8, 12, 13] (by decide +kernel) (by decide +kernel)
set_option maxRecDepth 20000 in
theorem gX0_sign_X1_isZero : GoodIn wsX0_sign (wsV RX0 32 RX1 yX1_isZero wsX1_isZero) := goodIn_app (goodIn_of _ (by decide +kernel)) ggX0_sign_X1_isZero
theorem dX0_sign_0 : decode cX0_sign 0 = .ok (.aload_n 0, 1) := by decide +kernel
theorem dX0_sign_1 : decode cX0_sign 1 = .ok (.getfield 10, 3) := by decide +kernel
theorem dX0_sign_4 : decode cX0_sign 4 = .ok (.invokevirtual 32, 3) := by decide +kernel
theorem dX0_sign_7 : decode cX0_sign 7 = .ok (.ifCond .eq 5, 3) := by decide +kernel
theorem dX0_sign_10 : decode cX0_sign 10 = .ok (.iconst 0, 1) := by decide +kernel
theorem dX0_sign_11 : decode cX0_sign 11 = .ok (.ireturn, 1) := by decide +kernel
theorem dX0_sign_12 : decode cX0_sign 12 = .ok (.aload_n 0, 1) := by decide +kernel
theorem dX0_sign_13 : decode cX0_sign 13 = .ok (.getfield 16, 3) := by decide +kernel
theorem dX0_sign_16 : decode cX0_sign 16 = .ok (.ifCond .eq 7, 3) := by decide +kernel
theorem dX0_sign_19 : decode cX0_sign 19 = .ok (.iconst (-1), 1) := by decide +kernel
theorem dX0_sign_20 : decode cX0_sign 20 = .ok (.goto 4, 3) := by decide +kernel
theorem dX0_sign_23 : decode cX0_sign 23 = .ok (.iconst 1, 1) := by decide +kernel
theorem dX0_sign_24 : decode cX0_sign 24 = .ok (.ireturn, 1) := by decide +kernel
theorem dX1_init_0 : decode cX1_init 0 = .ok (.aload_n 0, 1) := by decide +kernel
theorem dX1_init_1 : decode cX1_init 1 = .ok (.invokespecial 1, 3) := by decide +kernel
theorem dX1_init_4 : decode cX1_init 4 = .ok (.aload_n 0, 1) := by decide +kernel
theorem dX1_init_5 : decode cX1_init 5 = .ok (.bipush 64, 2) := by decide +kernel
theorem dX1_init_7 : decode cX1_init 7 = .ok (.newarray .long, 2) := by decide +kernel
theorem dX1_init_9 : decode cX1_init 9 = .ok (.putfield 9, 3) := by decide +kernel
theorem dX1_init_12 : decode cX1_init 12 = .ok (.return_, 1) := by decide +kernel
theorem dX1_isZero_0 : decode cX1_isZero 0 = .ok (.aload_n 0, 1) := by decide +kernel
theorem dX1_isZero_1 : decode cX1_isZero 1 = .ok (.getfield 13, 3) := by decide +kernel
theorem dX1_isZero_4 : decode cX1_isZero 4 = .ok (.ifCond .ne 7, 3) := by decide +kernel
theorem dX1_isZero_7 : decode cX1_isZero 7 = .ok (.iconst 1, 1) := by decide +kernel
theorem dX1_isZero_8 : decode cX1_isZero 8 = .ok (.goto 4, 3) := by decide +kernel
theorem dX1_isZero_11 : decode cX1_isZero 11 = .ok (.iconst 0, 1) := by decide +kernel
theorem dX1_isZero_12 : decode cX1_isZero 12 = .ok (.ireturn, 1) := by decide +kernel
theorem dX1_become_0 : decode cX1_become 0 = .ok (.aload_n 1, 1) := by decide +kernel
theorem dX1_become_1 : decode cX1_become 1 = .ok (.getfield 9, 3) := by decide +kernel
theorem dX1_become_4 : decode cX1_become 4 = .ok (.iconst 0, 1) := by decide +kernel
theorem dX1_become_5 : decode cX1_become 5 = .ok (.aload_n 0, 1) := by decide +kernel
theorem dX1_become_6 : decode cX1_become 6 = .ok (.getfield 9, 3) := by decide +kernel
theorem dX1_become_9 : decode cX1_become 9 = .ok (.iconst 0, 1) := by decide +kernel
theorem dX1_become_10 : decode cX1_become 10 = .ok (.bipush 64, 2) := by decide +kernel
theorem dX1_become_12 : decode cX1_become 12 = .ok (.invokestatic 17, 3) := by decide +kernel
theorem dX1_become_15 : decode cX1_become 15 = .ok (.aload_n 0, 1) := by decide +kernel
theorem dX1_become_16 : decode cX1_become 16 = .ok (.aload_n 1, 1) := by decide +kernel
theorem dX1_become_17 : decode cX1_become 17 = .ok (.getfield 13, 3) := by decide +kernel
theorem dX1_become_20 : decode cX1_become 20 = .ok (.putfield 13, 3) := by decide +kernel
theorem dX1_become_23 : decode cX1_become 23 = .ok (.return_, 1) := by decide +kernel
set_option maxRecDepth 20000 in
theorem ggX1_becomeSizeOf_X1_clear : GoodIn wsX1_becomeSizeOf wsX1_clear := goodIn_r _ [12, 7, 1, 13, 14] (by decide +kernel) (by decide +kernel)
set_option maxRecDepth 20000 in
theorem gX1_becomeSizeOf_X1_clear : GoodIn wsX1_becomeSizeOf (wsV RX1 23 RX1 yX1_clear wsX1_clear) := goodIn_app (goodIn_of _ (by decide +kernel)) ggX1_becomeSizeOf_X1_clear
theorem dX1_becomeSizeOf_0 : decode cX1_becomeSizeOf 0 = .ok (.aload_n 0, 1) := by decide +kernel
theorem dX1_becomeSizeOf_1 : decode cX1_becomeSizeOf 1 = .ok (.invokevirtual 23, 3) := by decide +kernel
theorem dX1_becomeSizeOf_4 : decode cX1_becomeSizeOf 4 = .ok (.lload_n 1, 1) := by decide +kernel
theorem dX1_becomeSizeOf_5 : decode cX1_becomeSizeOf 5 = .ok (.lstore_n 3, 1) := by decide +kernel
theorem dX1_becomeSizeOf_6 : decode cX1_becomeSizeOf 6 = .ok (.iconst 0, 1) := by decide +kernel
theorem dX1_becomeSizeOf_7 : decode cX1_becomeSizeOf 7 = .ok (.istore 5, 2) := by decide +kernel
theorem dX1_becomeSizeOf_9 : decode cX1_becomeSizeOf 9 = .ok (.iload 5, 2) := by decide +kernel
theorem dX1_becomeSizeOf_11 : decode cX1_becomeSizeOf 11 = .ok (.bipush 64, 2) := by decide +kernel
theorem dX1_becomeSizeOf_13 : decode cX1_becomeSizeOf 13 = .ok (.if_icmp .ge 44, 3) := by decide +kernel
theorem dX1_becomeSizeOf_16 : decode cX1_becomeSizeOf 16 = .ok (.lload_n 3, 1) := by decide +kernel
theorem dX1_becomeSizeOf_17 : decode cX1_becomeSizeOf 17 = .ok (.lconst 0, 1) := by decide +kernel
theorem dX1_becomeSizeOf_18 : decode cX1_becomeSizeOf 18 = .ok (.lcmp, 1) := by decide +kernel
theorem dX1_becomeSizeOf_19 : decode cX1_becomeSizeOf 19 = .ok (.ifCond .eq 38, 3) := by decide +kernel
theorem dX1_becomeSizeOf_22 : decode cX1_becomeSizeOf 22 = .ok (.aload_n 0, 1) := by decide +kernel
theorem dX1_becomeSizeOf_23 : decode cX1_becomeSizeOf 23 = .ok (.getfield 9, 3) := by decide +kernel
theorem dX1_becomeSizeOf_26 : decode cX1_becomeSizeOf 26 = .ok (.iload 5, 2) := by decide +kernel
theorem dX1_becomeSizeOf_28 : decode cX1_becomeSizeOf 28 = .ok (.lload_n 3, 1) := by decide +kernel
theorem dX1_becomeSizeOf_29 : decode cX1_becomeSizeOf 29 = .ok (.ldc2_w 26, 3) := by decide +kernel
theorem dX1_becomeSizeOf_32 : decode cX1_becomeSizeOf 32 = .ok (.lrem, 1) := by decide +kernel
theorem dX1_becomeSizeOf_33 : decode cX1_becomeSizeOf 33 = .ok (.invokestatic 28, 3) := by decide +kernel
theorem dX1_becomeSizeOf_36 : decode cX1_becomeSizeOf 36 = .ok (.lastore, 1) := by decide +kernel
theorem dX1_becomeSizeOf_37 : decode cX1_becomeSizeOf 37 = .ok (.lload_n 3, 1) := by decide +kernel
theorem dX1_becomeSizeOf_38 : decode cX1_becomeSizeOf 38 = .ok (.ldc2_w 26, 3) := by decide +kernel
theorem dX1_becomeSizeOf_41 : decode cX1_becomeSizeOf 41 = .ok (.ldiv, 1) := by decide +kernel
theorem dX1_becomeSizeOf_42 : decode cX1_becomeSizeOf 42 = .ok (.lstore_n 3, 1) := by decide +kernel
theorem dX1_becomeSizeOf_43 : decode cX1_becomeSizeOf 43 = .ok (.aload_n 0, 1) := by decide +kernel
theorem dX1_becomeSizeOf_44 : decode cX1_becomeSizeOf 44 = .ok (.iload 5, 2) := by decide +kernel
theorem dX1_becomeSizeOf_46 : decode cX1_becomeSizeOf 46 = .ok (.iconst 1, 1) := by decide +kernel
theorem dX1_becomeSizeOf_47 : decode cX1_becomeSizeOf 47 = .ok (.iadd, 1) := by decide +kernel
theorem dX1_becomeSizeOf_48 : decode cX1_becomeSizeOf 48 = .ok (.putfield 13, 3) := by decide +kernel
theorem dX1_becomeSizeOf_51 : decode cX1_becomeSizeOf 51 = .ok (.iinc 5 1, 3) := by decide +kernel
theorem dX1_becomeSizeOf_54 : decode cX1_becomeSizeOf 54 = .ok (.goto (-45), 3) := by decide +kernel
theorem dX1_becomeSizeOf_57 : decode cX1_becomeSizeOf 57 = .ok (.return_, 1) := by decide +kernel
theorem dX1_clear_0 : decode cX1_clear 0 = .ok (.iconst 0, 1) := by decide +kernel
theorem dX1_clear_1 : decode cX1_clear 1 = .ok (.istore_n 1, 1) := by decide +kernel
theorem dX1_clear_2 : decode cX1_clear 2 = .ok (.iload_n 1, 1) := by decide +kernel
theorem dX1_clear_3 : decode cX1_clear 3 = .ok (.aload_n 0, 1) := by decide +kernel
theorem dX1_clear_4 : decode cX1_clear 4 = .ok (.getfield 13, 3) := by decide +kernel
theorem dX1_clear_7 : decode cX1_clear 7 = .ok (.if_icmp .ge 16, 3) := by decide +kernel
theorem dX1_clear_10 : decode cX1_clear 10 = .ok (.aload_n 0, 1) := by decide +kernel
theorem dX1_clear_11 : decode cX1_clear 11 = .ok (.getfield 9, 3) := by decide +kernel
theorem dX1_clear_14 : decode cX1_clear 14 = .ok (.iload_n 1, 1) := by decide +kernel
theorem dX1_clear_15 : decode cX1_clear 15 = .ok (.lconst 0, 1) := by decide +kernel
theorem dX1_clear_16 : decode cX1_clear 16 = .ok (.lastore, 1) := by decide +kernel
theorem dX1_clear_17 : decode cX1_clear 17 = .ok (.iinc 1 1, 3) := by decide +kernel
theorem dX1_clear_20 : decode cX1_clear 20 = .ok (.goto (-18), 3) := by decide +kernel
theorem dX1_clear_23 : decode cX1_clear 23 = .ok (.aload_n 0, 1) := by decide +kernel
theorem dX1_clear_24 : decode cX1_clear 24 = .ok (.iconst 0, 1) := by decide +kernel
theorem dX1_clear_25 : decode cX1_clear 25 = .ok (.putfield 13, 3) := by decide +kernel
theorem dX1_clear_28 : decode cX1_clear 28 = .ok (.return_, 1) := by decide +kernel
set_option maxRecDepth 20000 in
theorem ggX1_precision_X1_figure : GoodIn wsX1_precision wsX1_figure := goodIn_r _ [10, 1, 11, 12, 13, 14, 15] (by decide +kernel) (by decide +kernel)
set_option maxRecDepth 20000 in
theorem gX1_precision_X1_figure : GoodIn wsX1_precision (wsV RX1 34 RX1 yX1_figure wsX1_figure) := goodIn_app (goodIn_of _ (by decide +kernel)) ggX1_precision_X1_figure
theorem dX1_precision_0 : decode cX1_precision 0 = .ok (.aload_n 0, 1) := by decide +kernel
theorem dX1_precision_1 : decode cX1_precision 1 = .ok (.getfield 13, 3) := by decide +kernel
theorem dX1_precision_4 : decode cX1_precision 4 = .ok (.bipush 6, 2) := by decide +kernel
theorem dX1_precision_6 : decode cX1_precision 6 = .ok (.imul, 1) := by decide +kernel
theorem dX1_precision_7 : decode cX1_precision 7 = .ok (.istore_n 1, 1) := by decide +kernel
theorem dX1_precision_8 : decode cX1_precision 8 = .ok (.iload_n 1, 1) := by decide +kernel
theorem dX1_precision_9 : decode cX1_precision 9 = .ok (.iconst 1, 1) := by decide +kernel
theorem dX1_precision_10 : decode cX1_precision 10 = .ok (.if_icmp .le 19, 3) := by decide +kernel
theorem dX1_precision_13 : decode cX1_precision 13 = .ok (.aload_n 0, 1) := by decide +kernel
theorem dX1_precision_14 : decode cX1_precision 14 = .ok (.iload_n 1, 1) := by decide +kernel
theorem dX1_precision_15 : decode cX1_precision 15 = .ok (.iconst 1, 1) := by decide +kernel
theorem dX1_precision_16 : decode cX1_precision 16 = .ok (.isub, 1) := by decide +kernel
theorem dX1_precision_17 : decode cX1_precision 17 = .ok (.invokevirtual 34, 3) := by decide +kernel
theorem dX1_precision_20 : decode cX1_precision 20 = .ok (.ifCond .ne 9, 3) := by decide +kernel
theorem dX1_precision_23 : decode cX1_precision 23 = .ok (.iinc 1 (-1), 3) := by decide +kernel
theorem dX1_precision_26 : decode cX1_precision 26 = .ok (.goto (-18), 3) := by decide +kernel
theorem dX1_precision_29 : decode cX1_precision 29 = .ok (.iload_n 1, 1) := by decide +kernel
theorem dX1_precision_30 : decode cX1_precision 30 = .ok (.iconst 1, 1) := by decide +kernel
theorem dX1_precision_31 : decode cX1_precision 31 = .ok (.invokestatic 38, 3) := by decide +kernel
theorem dX1_precision_34 : decode cX1_precision 34 = .ok (.ireturn, 1) := by decide +kernel
theorem dX1_figure_0 : decode cX1_figure 0 = .ok (.iload_n 1, 1) := by decide +kernel
theorem dX1_figure_1 : decode cX1_figure 1 = .ok (.bipush 6, 2) := by decide +kernel
theorem dX1_figure_3 : decode cX1_figure 3 = .ok (.idiv, 1) := by decide +kernel
theorem dX1_figure_4 : decode cX1_figure 4 = .ok (.istore_n 2, 1) := by decide +kernel
theorem dX1_figure_5 : decode cX1_figure 5 = .ok (.iload_n 1, 1) := by decide +kernel
theorem dX1_figure_6 : decode cX1_figure 6 = .ok (.ifCond .lt 11, 3) := by decide +kernel
theorem dX1_figure_9 : decode cX1_figure 9 = .ok (.iload_n 2, 1) := by decide +kernel
theorem dX1_figure_10 : decode cX1_figure 10 = .ok (.aload_n 0, 1) := by decide +kernel
theorem dX1_figure_11 : decode cX1_figure 11 = .ok (.getfield 13, 3) := by decide +kernel
theorem dX1_figure_14 : decode cX1_figure 14 = .ok (.if_icmp .lt 5, 3) := by decide +kernel
theorem dX1_figure_17 : decode cX1_figure 17 = .ok (.iconst 0, 1) := by decide +kernel
theorem dX1_figure_18 : decode cX1_figure 18 = .ok (.ireturn, 1) := by decide +kernel
theorem dX1_figure_19 : decode cX1_figure 19 = .ok (.aload_n 0, 1) := by decide +kernel
theorem dX1_figure_20 : decode cX1_figure 20 = .ok (.getfield 9, 3) := by decide +kernel
theorem dX1_figure_23 : decode cX1_figure 23 = .ok (.iload_n 2, 1) := by decide +kernel
theorem dX1_figure_24 : decode cX1_figure 24 = .ok (.laload, 1) := by decide +kernel
theorem dX1_figure_25 : decode cX1_figure 25 = .ok (.getstatic 42, 3) := by decide +kernel
theorem dX1_figure_28 : decode cX1_figure 28 = .ok (.iload_n 1, 1) := by decide +kernel
theorem dX1_figure_29 : decode cX1_figure 29 = .ok (.bipush 6, 2) := by decide +kernel
theorem dX1_figure_31 : decode cX1_figure 31 = .ok (.irem, 1) := by decide +kernel
theorem dX1_figure_32 : decode cX1_figure 32 = .ok (.laload, 1) := by decide +kernel
theorem dX1_figure_33 : decode cX1_figure 33 = .ok (.ldiv, 1) := by decide +kernel
theorem dX1_figure_34 : decode cX1_figure 34 = .ok (.ldc2_w 45, 3) := by decide +kernel
theorem dX1_figure_37 : decode cX1_figure 37 = .ok (.lrem, 1) := by decide +kernel
theorem dX1_figure_38 : decode cX1_figure 38 = .ok (.l2i, 1) := by decide +kernel
theorem dX1_figure_39 : decode cX1_figure 39 = .ok (.ireturn, 1) := by decide +kernel
set_option maxRecDepth 20000 in
theorem ggX1_zerosAtEnd_X1_figure : GoodIn wsX1_zerosAtEnd wsX1_figure := goodIn_r _ [6, 1, 7, 8, 9, 10, 11] (by decide +kernel) (by decide +kernel)
set_option maxRecDepth 20000 in
theorem gX1_zerosAtEnd_X1_figure : GoodIn wsX1_zerosAtEnd (wsV RX1 34 RX1 yX1_figure wsX1_figure) := goodIn_app (goodIn_of _ (by decide +kernel)) ggX1_zerosAtEnd_X1_figure
theorem dX1_zerosAtEnd_0 : decode cX1_zerosAtEnd 0 = .ok (.aload_n 0, 1) := by decide +kernel
theorem dX1_zerosAtEnd_1 : decode cX1_zerosAtEnd 1 = .ok (.getfield 13, 3) := by decide +kernel
theorem dX1_zerosAtEnd_4 : decode cX1_zerosAtEnd 4 = .ok (.bipush 6, 2) := by decide +kernel
theorem dX1_zerosAtEnd_6 : decode cX1_zerosAtEnd 6 = .ok (.imul, 1) := by decide +kernel
theorem dX1_zerosAtEnd_7 : decode cX1_zerosAtEnd 7 = .ok (.istore_n 1, 1) := by decide +kernel
theorem dX1_zerosAtEnd_8 : decode cX1_zerosAtEnd 8 = .ok (.iconst 0, 1) := by decide +kernel
theorem dX1_zerosAtEnd_9 : decode cX1_zerosAtEnd 9 = .ok (.istore_n 2, 1) := by decide +kernel
theorem dX1_zerosAtEnd_10 : decode cX1_zerosAtEnd 10 = .ok (.iload_n 2, 1) := by decide +kernel
theorem dX1_zerosAtEnd_11 : decode cX1_zerosAtEnd 11 = .ok (.iload_n 1, 1) := by decide +kernel
theorem dX1_zerosAtEnd_12 : decode cX1_zerosAtEnd 12 = .ok (.if_icmp .ge 17, 3) := by decide +kernel
theorem dX1_zerosAtEnd_15 : decode cX1_zerosAtEnd 15 = .ok (.aload_n 0, 1) := by decide +kernel
theorem dX1_zerosAtEnd_16 : decode cX1_zerosAtEnd 16 = .ok (.iload_n 2, 1) := by decide +kernel
theorem dX1_zerosAtEnd_17 : decode cX1_zerosAtEnd 17 = .ok (.invokevirtual 34, 3) := by decide +kernel
theorem dX1_zerosAtEnd_20 : decode cX1_zerosAtEnd 20 = .ok (.ifCond .ne 9, 3) := by decide +kernel
theorem dX1_zerosAtEnd_23 : decode cX1_zerosAtEnd 23 = .ok (.iinc 2 1, 3) := by decide +kernel
theorem dX1_zerosAtEnd_26 : decode cX1_zerosAtEnd 26 = .ok (.goto (-16), 3) := by decide +kernel
theorem dX1_zerosAtEnd_29 : decode cX1_zerosAtEnd 29 = .ok (.iload_n 2, 1) := by decide +kernel
theorem dX1_zerosAtEnd_30 : decode cX1_zerosAtEnd 30 = .ok (.ireturn, 1) := by decide +kernel
theorem dX1_lowestBits_0 : decode cX1_lowestBits 0 = .ok (.lconst 0, 1) := by decide +kernel
theorem dX1_lowestBits_1 : decode cX1_lowestBits 1 = .ok (.lstore_n 1, 1) := by decide +kernel
theorem dX1_lowestBits_2 : decode cX1_lowestBits 2 = .ok (.aload_n 0, 1) := by decide +kernel
theorem dX1_lowestBits_3 : decode cX1_lowestBits 3 = .ok (.getfield 13, 3) := by decide +kernel
theorem dX1_lowestBits_6 : decode cX1_lowestBits 6 = .ok (.iconst 1, 1) := by decide +kernel
theorem dX1_lowestBits_7 : decode cX1_lowestBits 7 = .ok (.isub, 1) := by decide +kernel
theorem dX1_lowestBits_8 : decode cX1_lowestBits 8 = .ok (.istore_n 3, 1) := by decide +kernel
theorem dX1_lowestBits_9 : decode cX1_lowestBits 9 = .ok (.iload_n 3, 1) := by decide +kernel
theorem dX1_lowestBits_10 : decode cX1_lowestBits 10 = .ok (.ifCond .lt 22, 3) := by decide +kernel
theorem dX1_lowestBits_13 : decode cX1_lowestBits 13 = .ok (.lload_n 1, 1) := by decide +kernel
theorem dX1_lowestBits_14 : decode cX1_lowestBits 14 = .ok (.ldc2_w 26, 3) := by decide +kernel
theorem dX1_lowestBits_17 : decode cX1_lowestBits 17 = .ok (.lmul, 1) := by decide +kernel
theorem dX1_lowestBits_18 : decode cX1_lowestBits 18 = .ok (.aload_n 0, 1) := by decide +kernel
theorem dX1_lowestBits_19 : decode cX1_lowestBits 19 = .ok (.getfield 9, 3) := by decide +kernel
theorem dX1_lowestBits_22 : decode cX1_lowestBits 22 = .ok (.iload_n 3, 1) := by decide +kernel
theorem dX1_lowestBits_23 : decode cX1_lowestBits 23 = .ok (.laload, 1) := by decide +kernel
theorem dX1_lowestBits_24 : decode cX1_lowestBits 24 = .ok (.ladd, 1) := by decide +kernel
theorem dX1_lowestBits_25 : decode cX1_lowestBits 25 = .ok (.lstore_n 1, 1) := by decide +kernel
theorem dX1_lowestBits_26 : decode cX1_lowestBits 26 = .ok (.iinc 3 (-1), 3) := by decide +kernel
theorem dX1_lowestBits_29 : decode cX1_lowestBits 29 = .ok (.goto (-20), 3) := by decide +kernel
theorem dX1_lowestBits_32 : decode cX1_lowestBits 32 = .ok (.lload_n 1, 1) := by decide +kernel
theorem dX1_lowestBits_33 : decode cX1_lowestBits 33 = .ok (.lreturn, 1) := by decide +kernel
theorem dX1_order_0 : decode cX1_order 0 = .ok (.aload_n 0, 1) := by decide +kernel
theorem dX1_order_1 : decode cX1_order 1 = .ok (.getfield 13, 3) := by decide +kernel
theorem dX1_order_4 : decode cX1_order 4 = .ok (.aload_n 1, 1) := by decide +kernel
theorem dX1_order_5 : decode cX1_order 5 = .ok (.getfield 13, 3) := by decide +kernel
theorem dX1_order_8 : decode cX1_order 8 = .ok (.if_icmp .eq 20, 3) := by decide +kernel
theorem dX1_order_11 : decode cX1_order 11 = .ok (.aload_n 0, 1) := by decide +kernel
theorem dX1_order_12 : decode cX1_order 12 = .ok (.getfield 13, 3) := by decide +kernel
theorem dX1_order_15 : decode cX1_order 15 = .ok (.aload_n 1, 1) := by decide +kernel
theorem dX1_order_16 : decode cX1_order 16 = .ok (.getfield 13, 3) := by decide +kernel
theorem dX1_order_19 : decode cX1_order 19 = .ok (.if_icmp .ge 7, 3) := by decide +kernel
theorem dX1_order_22 : decode cX1_order 22 = .ok (.iconst (-1), 1) := by decide +kernel
theorem dX1_order_23 : decode cX1_order 23 = .ok (.goto 4, 3) := by decide +kernel
theorem dX1_order_26 : decode cX1_order 26 = .ok (.iconst 1, 1) := by decide +kernel
theorem dX1_order_27 : decode cX1_order 27 = .ok (.ireturn, 1) := by decide +kernel
theorem dX1_order_28 : decode cX1_order 28 = .ok (.aload_n 0, 1) := by decide +kernel
theorem dX1_order_29 : decode cX1_order 29 = .ok (.getfield 13, 3) := by decide +kernel
theorem dX1_order_32 : decode cX1_order 32 = .ok (.iconst 1, 1) := by decide +kernel
theorem dX1_order_33 : decode cX1_order 33 = .ok (.isub, 1) := by decide +kernel
theorem dX1_order_34 : decode cX1_order 34 = .ok (.istore_n 2, 1) := by decide +kernel
theorem dX1_order_35 : decode cX1_order 35 = .ok (.iload_n 2, 1) := by decide +kernel
theorem dX1_order_36 : decode cX1_order 36 = .ok (.ifCond .lt 47, 3) := by decide +kernel
theorem dX1_order_39 : decode cX1_order 39 = .ok (.aload_n 0, 1) := by decide +kernel
theorem dX1_order_40 : decode cX1_order 40 = .ok (.getfield 9, 3) := by decide +kernel
theorem dX1_order_43 : decode cX1_order 43 = .ok (.iload_n 2, 1) := by decide +kernel
theorem dX1_order_44 : decode cX1_order 44 = .ok (.laload, 1) := by decide +kernel
theorem dX1_order_45 : decode cX1_order 45 = .ok (.aload_n 1, 1) := by decide +kernel
theorem dX1_order_46 : decode cX1_order 46 = .ok (.getfield 9, 3) := by decide +kernel
theorem dX1_order_49 : decode cX1_order 49 = .ok (.iload_n 2, 1) := by decide +kernel
theorem dX1_order_50 : decode cX1_order 50 = .ok (.laload, 1) := by decide +kernel
theorem dX1_order_51 : decode cX1_order 51 = .ok (.lcmp, 1) := by decide +kernel
theorem dX1_order_52 : decode cX1_order 52 = .ok (.ifCond .eq 25, 3) := by decide +kernel
theorem dX1_order_55 : decode cX1_order 55 = .ok (.aload_n 0, 1) := by decide +kernel
theorem dX1_order_56 : decode cX1_order 56 = .ok (.getfield 9, 3) := by decide +kernel
theorem dX1_order_59 : decode cX1_order 59 = .ok (.iload_n 2, 1) := by decide +kernel
theorem dX1_order_60 : decode cX1_order 60 = .ok (.laload, 1) := by decide +kernel
theorem dX1_order_61 : decode cX1_order 61 = .ok (.aload_n 1, 1) := by decide +kernel
theorem dX1_order_62 : decode cX1_order 62 = .ok (.getfield 9, 3) := by decide +kernel
theorem dX1_order_65 : decode cX1_order 65 = .ok (.iload_n 2, 1) := by decide +kernel
theorem dX1_order_66 : decode cX1_order 66 = .ok (.laload, 1) := by decide +kernel
theorem dX1_order_67 : decode cX1_order 67 = .ok (.lcmp, 1) := by decide +kernel
theorem dX1_order_68 : decode cX1_order 68 = .ok (.ifCond .ge 7, 3) := by decide +kernel
theorem dX1_order_71 : decode cX1_order 71 = .ok (.iconst (-1), 1) := by decide +kernel
theorem dX1_order_72 : decode cX1_order 72 = .ok (.goto 4, 3) := by decide +kernel
theorem dX1_order_75 : decode cX1_order 75 = .ok (.iconst 1, 1) := by decide +kernel
theorem dX1_order_76 : decode cX1_order 76 = .ok (.ireturn, 1) := by decide +kernel
theorem dX1_order_77 : decode cX1_order 77 = .ok (.iinc 2 (-1), 3) := by decide +kernel
theorem dX1_order_80 : decode cX1_order 80 = .ok (.goto (-45), 3) := by decide +kernel
theorem dX1_order_83 : decode cX1_order 83 = .ok (.iconst 0, 1) := by decide +kernel
theorem dX1_order_84 : decode cX1_order 84 = .ok (.ireturn, 1) := by decide +kernel
set_option maxRecDepth 20000 in
theorem ggX1_add_X1_close : GoodIn wsX1_add wsX1_close := goodIn_r _ [12, 1, 6, 13, 14] (by decide +kernel) (by decide +kernel)
set_option maxRecDepth 20000 in
theorem gX1_add_X1_close : GoodIn wsX1_add (wsV RX1 47 RX1 yX1_close wsX1_close) := goodIn_app (goodIn_of _ (by decide +kernel)) ggX1_add_X1_close
theorem dX1_add_0 : decode cX1_add 0 = .ok (.aload_n 0, 1) := by decide +kernel
theorem dX1_add_1 : decode cX1_add 1 = .ok (.getfield 13, 3) := by decide +kernel
theorem dX1_add_4 : decode cX1_add 4 = .ok (.aload_n 1, 1) := by decide +kernel
theorem dX1_add_5 : decode cX1_add 5 = .ok (.getfield 13, 3) := by decide +kernel
theorem dX1_add_8 : decode cX1_add 8 = .ok (.invokestatic 38, 3) := by decide +kernel
theorem dX1_add_11 : decode cX1_add 11 = .ok (.istore_n 2, 1) := by decide +kernel
theorem dX1_add_12 : decode cX1_add 12 = .ok (.lconst 0, 1) := by decide +kernel
theorem dX1_add_13 : decode cX1_add 13 = .ok (.lstore_n 3, 1) := by decide +kernel
theorem dX1_add_14 : decode cX1_add 14 = .ok (.iconst 0, 1) := by decide +kernel
theorem dX1_add_15 : decode cX1_add 15 = .ok (.istore 5, 2) := by decide +kernel
theorem dX1_add_17 : decode cX1_add 17 = .ok (.iload 5, 2) := by decide +kernel
theorem dX1_add_19 : decode cX1_add 19 = .ok (.iload_n 2, 1) := by decide +kernel
theorem dX1_add_20 : decode cX1_add 20 = .ok (.if_icmp .ge 48, 3) := by decide +kernel
theorem dX1_add_23 : decode cX1_add 23 = .ok (.aload_n 0, 1) := by decide +kernel
theorem dX1_add_24 : decode cX1_add 24 = .ok (.getfield 9, 3) := by decide +kernel
theorem dX1_add_27 : decode cX1_add 27 = .ok (.iload 5, 2) := by decide +kernel
theorem dX1_add_29 : decode cX1_add 29 = .ok (.laload, 1) := by decide +kernel
theorem dX1_add_30 : decode cX1_add 30 = .ok (.aload_n 1, 1) := by decide +kernel
theorem dX1_add_31 : decode cX1_add 31 = .ok (.getfield 9, 3) := by decide +kernel
theorem dX1_add_34 : decode cX1_add 34 = .ok (.iload 5, 2) := by decide +kernel
theorem dX1_add_36 : decode cX1_add 36 = .ok (.laload, 1) := by decide +kernel
theorem dX1_add_37 : decode cX1_add 37 = .ok (.ladd, 1) := by decide +kernel
theorem dX1_add_38 : decode cX1_add 38 = .ok (.lload_n 3, 1) := by decide +kernel
theorem dX1_add_39 : decode cX1_add 39 = .ok (.ladd, 1) := by decide +kernel
theorem dX1_add_40 : decode cX1_add 40 = .ok (.lstore 6, 2) := by decide +kernel
theorem dX1_add_42 : decode cX1_add 42 = .ok (.aload_n 0, 1) := by decide +kernel
theorem dX1_add_43 : decode cX1_add 43 = .ok (.getfield 9, 3) := by decide +kernel
theorem dX1_add_46 : decode cX1_add 46 = .ok (.iload 5, 2) := by decide +kernel
theorem dX1_add_48 : decode cX1_add 48 = .ok (.lload 6, 2) := by decide +kernel
theorem dX1_add_50 : decode cX1_add 50 = .ok (.ldc2_w 26, 3) := by decide +kernel
theorem dX1_add_53 : decode cX1_add 53 = .ok (.lrem, 1) := by decide +kernel
theorem dX1_add_54 : decode cX1_add 54 = .ok (.lastore, 1) := by decide +kernel
theorem dX1_add_55 : decode cX1_add 55 = .ok (.lload 6, 2) := by decide +kernel
theorem dX1_add_57 : decode cX1_add 57 = .ok (.ldc2_w 26, 3) := by decide +kernel
theorem dX1_add_60 : decode cX1_add 60 = .ok (.ldiv, 1) := by decide +kernel
theorem dX1_add_61 : decode cX1_add 61 = .ok (.lstore_n 3, 1) := by decide +kernel
theorem dX1_add_62 : decode cX1_add 62 = .ok (.iinc 5 1, 3) := by decide +kernel
theorem dX1_add_65 : decode cX1_add 65 = .ok (.goto (-48), 3) := by decide +kernel
theorem dX1_add_68 : decode cX1_add 68 = .ok (.aload_n 0, 1) := by decide +kernel
theorem dX1_add_69 : decode cX1_add 69 = .ok (.iload_n 2, 1) := by decide +kernel
theorem dX1_add_70 : decode cX1_add 70 = .ok (.lload_n 3, 1) := by decide +kernel
theorem dX1_add_71 : decode cX1_add 71 = .ok (.invokevirtual 47, 3) := by decide +kernel
theorem dX1_add_74 : decode cX1_add 74 = .ok (.return_, 1) := by decide +kernel
set_option maxRecDepth 20000 in
theorem ggX1_subtract_X1_shrink : GoodIn wsX1_subtract wsX1_shrink := goodIn_r _ [8, 1, 2, 9, 10] (by decide +kernel) (by decide +kernel)
set_option maxRecDepth 20000 in
theorem gX1_subtract_X1_shrink : GoodIn wsX1_subtract (wsV RX1 51 RX1 yX1_shrink wsX1_shrink) := goodIn_app (goodIn_of _ (by decide +kernel)) ggX1_subtract_X1_shrink
theorem dX1_subtract_0 : decode cX1_subtract 0 = .ok (.lconst 0, 1) := by decide +kernel
theorem dX1_subtract_1 : decode cX1_subtract 1 = .ok (.lstore_n 2, 1) := by decide +kernel
theorem dX1_subtract_2 : decode cX1_subtract 2 = .ok (.iconst 0, 1) := by decide +kernel
theorem dX1_subtract_3 : decode cX1_subtract 3 = .ok (.istore 4, 2) := by decide +kernel
theorem dX1_subtract_5 : decode cX1_subtract 5 = .ok (.iload 4, 2) := by decide +kernel
theorem dX1_subtract_7 : decode cX1_subtract 7 = .ok (.aload_n 0, 1) := by decide +kernel
theorem dX1_subtract_8 : decode cX1_subtract 8 = .ok (.getfield 13, 3) := by decide +kernel
theorem dX1_subtract_11 : decode cX1_subtract 11 = .ok (.if_icmp .ge 56, 3) := by decide +kernel
theorem dX1_subtract_14 : decode cX1_subtract 14 = .ok (.aload_n 0, 1) := by decide +kernel
theorem dX1_subtract_15 : decode cX1_subtract 15 = .ok (.getfield 9, 3) := by decide +kernel
theorem dX1_subtract_18 : decode cX1_subtract 18 = .ok (.iload 4, 2) := by decide +kernel
theorem dX1_subtract_20 : decode cX1_subtract 20 = .ok (.laload, 1) := by decide +kernel
theorem dX1_subtract_21 : decode cX1_subtract 21 = .ok (.aload_n 1, 1) := by decide +kernel
theorem dX1_subtract_22 : decode cX1_subtract 22 = .ok (.getfield 9, 3) := by decide +kernel
theorem dX1_subtract_25 : decode cX1_subtract 25 = .ok (.iload 4, 2) := by decide +kernel
theorem dX1_subtract_27 : decode cX1_subtract 27 = .ok (.laload, 1) := by decide +kernel
theorem dX1_subtract_28 : decode cX1_subtract 28 = .ok (.lsub, 1) := by decide +kernel
theorem dX1_subtract_29 : decode cX1_subtract 29 = .ok (.lload_n 2, 1) := by decide +kernel
theorem dX1_subtract_30 : decode cX1_subtract 30 = .ok (.lsub, 1) := by decide +kernel
theorem dX1_subtract_31 : decode cX1_subtract 31 = .ok (.lstore 5, 2) := by decide +kernel
theorem dX1_subtract_33 : decode cX1_subtract 33 = .ok (.lload 5, 2) := by decide +kernel
theorem dX1_subtract_35 : decode cX1_subtract 35 = .ok (.lconst 0, 1) := by decide +kernel
theorem dX1_subtract_36 : decode cX1_subtract 36 = .ok (.lcmp, 1) := by decide +kernel
theorem dX1_subtract_37 : decode cX1_subtract 37 = .ok (.ifCond .ge 7, 3) := by decide +kernel
theorem dX1_subtract_40 : decode cX1_subtract 40 = .ok (.lconst 1, 1) := by decide +kernel
theorem dX1_subtract_41 : decode cX1_subtract 41 = .ok (.goto 4, 3) := by decide +kernel
theorem dX1_subtract_44 : decode cX1_subtract 44 = .ok (.lconst 0, 1) := by decide +kernel
theorem dX1_subtract_45 : decode cX1_subtract 45 = .ok (.lstore_n 2, 1) := by decide +kernel
theorem dX1_subtract_46 : decode cX1_subtract 46 = .ok (.aload_n 0, 1) := by decide +kernel
theorem dX1_subtract_47 : decode cX1_subtract 47 = .ok (.getfield 9, 3) := by decide +kernel
theorem dX1_subtract_50 : decode cX1_subtract 50 = .ok (.iload 4, 2) := by decide +kernel
theorem dX1_subtract_52 : decode cX1_subtract 52 = .ok (.lload 5, 2) := by decide +kernel
theorem dX1_subtract_54 : decode cX1_subtract 54 = .ok (.lload_n 2, 1) := by decide +kernel
theorem dX1_subtract_55 : decode cX1_subtract 55 = .ok (.ldc2_w 26, 3) := by decide +kernel
theorem dX1_subtract_58 : decode cX1_subtract 58 = .ok (.lmul, 1) := by decide +kernel
theorem dX1_subtract_59 : decode cX1_subtract 59 = .ok (.ladd, 1) := by decide +kernel
theorem dX1_subtract_60 : decode cX1_subtract 60 = .ok (.lastore, 1) := by decide +kernel
theorem dX1_subtract_61 : decode cX1_subtract 61 = .ok (.iinc 4 1, 3) := by decide +kernel
theorem dX1_subtract_64 : decode cX1_subtract 64 = .ok (.goto (-59), 3) := by decide +kernel
theorem dX1_subtract_67 : decode cX1_subtract 67 = .ok (.aload_n 0, 1) := by decide +kernel
theorem dX1_subtract_68 : decode cX1_subtract 68 = .ok (.invokevirtual 51, 3) := by decide +kernel
theorem dX1_subtract_71 : decode cX1_subtract 71 = .ok (.return_, 1) := by decide +kernel
set_option maxRecDepth 20000 in
theorem ggX1_becomeProduct_X1_clear : GoodIn wsX1_becomeProduct wsX1_clear := goodIn_r _ [8, 1, 2, 13, 14] (by decide +kernel) (by decide +kernel)
set_option maxRecDepth 20000 in
theorem gX1_becomeProduct_X1_clear : GoodIn wsX1_becomeProduct (wsV RX1 23 RX1 yX1_clear wsX1_clear) := goodIn_app (goodIn_of _ (by decide +kernel)) ggX1_becomeProduct_X1_clear
set_option maxRecDepth 20000 in
theorem ggX1_becomeProduct_X1_shrink : GoodIn wsX1_becomeProduct wsX1_shrink := goodIn_r _ [12, 1, 2, 13, 14] (by decide +kernel) (by decide +kernel)
set_option maxRecDepth 20000 in
theorem gX1_becomeProduct_X1_shrink : GoodIn wsX1_becomeProduct (wsV RX1 51 RX1 yX1_shrink wsX1_shrink) := goodIn_app (goodIn_of _ (by decide +kernel)) ggX1_becomeProduct_X1_shrink
theorem dX1_becomeProduct_0 : decode cX1_becomeProduct 0 = .ok (.aload_n 0, 1) := by decide +kernel
theorem dX1_becomeProduct_1 : decode cX1_becomeProduct 1 = .ok (.invokevirtual 23, 3) := by decide +kernel
theorem dX1_becomeProduct_4 : decode cX1_becomeProduct 4 = .ok (.aload_n 1, 1) := by decide +kernel
theorem dX1_becomeProduct_5 : decode cX1_becomeProduct 5 = .ok (.getfield 13, 3) := by decide +kernel
theorem dX1_becomeProduct_8 : decode cX1_becomeProduct 8 = .ok (.aload_n 2, 1) := by decide +kernel
theorem dX1_becomeProduct_9 : decode cX1_becomeProduct 9 = .ok (.getfield 13, 3) := by decide +kernel
theorem dX1_becomeProduct_12 : decode cX1_becomeProduct 12 = .ok (.iadd, 1) := by decide +kernel
theorem dX1_becomeProduct_13 : decode cX1_becomeProduct 13 = .ok (.bipush 64, 2) := by decide +kernel
theorem dX1_becomeProduct_15 : decode cX1_becomeProduct 15 = .ok (.if_icmp .le 4, 3) := by decide +kernel
theorem dX1_becomeProduct_18 : decode cX1_becomeProduct 18 = .ok (.return_, 1) := by decide +kernel
theorem dX1_becomeProduct_19 : decode cX1_becomeProduct 19 = .ok (.iconst 0, 1) := by decide +kernel
theorem dX1_becomeProduct_20 : decode cX1_becomeProduct 20 = .ok (.istore_n 3, 1) := by decide +kernel
theorem dX1_becomeProduct_21 : decode cX1_becomeProduct 21 = .ok (.iload_n 3, 1) := by decide +kernel
theorem dX1_becomeProduct_22 : decode cX1_becomeProduct 22 = .ok (.aload_n 1, 1) := by decide +kernel
theorem dX1_becomeProduct_23 : decode cX1_becomeProduct 23 = .ok (.getfield 13, 3) := by decide +kernel
theorem dX1_becomeProduct_26 : decode cX1_becomeProduct 26 = .ok (.if_icmp .ge 95, 3) := by decide +kernel
theorem dX1_becomeProduct_29 : decode cX1_becomeProduct 29 = .ok (.lconst 0, 1) := by decide +kernel
theorem dX1_becomeProduct_30 : decode cX1_becomeProduct 30 = .ok (.lstore 4, 2) := by decide +kernel
theorem dX1_becomeProduct_32 : decode cX1_becomeProduct 32 = .ok (.iconst 0, 1) := by decide +kernel
theorem dX1_becomeProduct_33 : decode cX1_becomeProduct 33 = .ok (.istore 6, 2) := by decide +kernel
theorem dX1_becomeProduct_35 : decode cX1_becomeProduct 35 = .ok (.iload 6, 2) := by decide +kernel
theorem dX1_becomeProduct_37 : decode cX1_becomeProduct 37 = .ok (.aload_n 2, 1) := by decide +kernel
theorem dX1_becomeProduct_38 : decode cX1_becomeProduct 38 = .ok (.getfield 13, 3) := by decide +kernel
theorem dX1_becomeProduct_41 : decode cX1_becomeProduct 41 = .ok (.if_icmp .ge 61, 3) := by decide +kernel
theorem dX1_becomeProduct_44 : decode cX1_becomeProduct 44 = .ok (.aload_n 0, 1) := by decide +kernel
theorem dX1_becomeProduct_45 : decode cX1_becomeProduct 45 = .ok (.getfield 9, 3) := by decide +kernel
theorem dX1_becomeProduct_48 : decode cX1_becomeProduct 48 = .ok (.iload_n 3, 1) := by decide +kernel
theorem dX1_becomeProduct_49 : decode cX1_becomeProduct 49 = .ok (.iload 6, 2) := by decide +kernel
theorem dX1_becomeProduct_51 : decode cX1_becomeProduct 51 = .ok (.iadd, 1) := by decide +kernel
theorem dX1_becomeProduct_52 : decode cX1_becomeProduct 52 = .ok (.laload, 1) := by decide +kernel
theorem dX1_becomeProduct_53 : decode cX1_becomeProduct 53 = .ok (.aload_n 1, 1) := by decide +kernel
theorem dX1_becomeProduct_54 : decode cX1_becomeProduct 54 = .ok (.getfield 9, 3) := by decide +kernel
theorem dX1_becomeProduct_57 : decode cX1_becomeProduct 57 = .ok (.iload_n 3, 1) := by decide +kernel
theorem dX1_becomeProduct_58 : decode cX1_becomeProduct 58 = .ok (.laload, 1) := by decide +kernel
theorem dX1_becomeProduct_59 : decode cX1_becomeProduct 59 = .ok (.aload_n 2, 1) := by decide +kernel
theorem dX1_becomeProduct_60 : decode cX1_becomeProduct 60 = .ok (.getfield 9, 3) := by decide +kernel
theorem dX1_becomeProduct_63 : decode cX1_becomeProduct 63 = .ok (.iload 6, 2) := by decide +kernel
theorem dX1_becomeProduct_65 : decode cX1_becomeProduct 65 = .ok (.laload, 1) := by decide +kernel
theorem dX1_becomeProduct_66 : decode cX1_becomeProduct 66 = .ok (.lmul, 1) := by decide +kernel
theorem dX1_becomeProduct_67 : decode cX1_becomeProduct 67 = .ok (.ladd, 1) := by decide +kernel
theorem dX1_becomeProduct_68 : decode cX1_becomeProduct 68 = .ok (.lload 4, 2) := by decide +kernel
theorem dX1_becomeProduct_70 : decode cX1_becomeProduct 70 = .ok (.ladd, 1) := by decide +kernel
theorem dX1_becomeProduct_71 : decode cX1_becomeProduct 71 = .ok (.lstore 7, 2) := by decide +kernel
theorem dX1_becomeProduct_73 : decode cX1_becomeProduct 73 = .ok (.aload_n 0, 1) := by decide +kernel
theorem dX1_becomeProduct_74 : decode cX1_becomeProduct 74 = .ok (.getfield 9, 3) := by decide +kernel
theorem dX1_becomeProduct_77 : decode cX1_becomeProduct 77 = .ok (.iload_n 3, 1) := by decide +kernel
theorem dX1_becomeProduct_78 : decode cX1_becomeProduct 78 = .ok (.iload 6, 2) := by decide +kernel
theorem dX1_becomeProduct_80 : decode cX1_becomeProduct 80 = .ok (.iadd, 1) := by decide +kernel
theorem dX1_becomeProduct_81 : decode cX1_becomeProduct 81 = .ok (.lload 7, 2) := by decide +kernel
theorem dX1_becomeProduct_83 : decode cX1_becomeProduct 83 = .ok (.ldc2_w 26, 3) := by decide +kernel
theorem dX1_becomeProduct_86 : decode cX1_becomeProduct 86 = .ok (.lrem, 1) := by decide +kernel
theorem dX1_becomeProduct_87 : decode cX1_becomeProduct 87 = .ok (.lastore, 1) := by decide +kernel
theorem dX1_becomeProduct_88 : decode cX1_becomeProduct 88 = .ok (.lload 7, 2) := by decide +kernel
theorem dX1_becomeProduct_90 : decode cX1_becomeProduct 90 = .ok (.ldc2_w 26, 3) := by decide +kernel
theorem dX1_becomeProduct_93 : decode cX1_becomeProduct 93 = .ok (.ldiv, 1) := by decide +kernel
theorem dX1_becomeProduct_94 : decode cX1_becomeProduct 94 = .ok (.lstore 4, 2) := by decide +kernel
theorem dX1_becomeProduct_96 : decode cX1_becomeProduct 96 = .ok (.iinc 6 1, 3) := by decide +kernel
theorem dX1_becomeProduct_99 : decode cX1_becomeProduct 99 = .ok (.goto (-64), 3) := by decide +kernel
theorem dX1_becomeProduct_102 : decode cX1_becomeProduct 102 = .ok (.aload_n 0, 1) := by decide +kernel
theorem dX1_becomeProduct_103 : decode cX1_becomeProduct 103 = .ok (.getfield 9, 3) := by decide +kernel
theorem dX1_becomeProduct_106 : decode cX1_becomeProduct 106 = .ok (.iload_n 3, 1) := by decide +kernel
theorem dX1_becomeProduct_107 : decode cX1_becomeProduct 107 = .ok (.aload_n 2, 1) := by decide +kernel
theorem dX1_becomeProduct_108 : decode cX1_becomeProduct 108 = .ok (.getfield 13, 3) := by decide +kernel
theorem dX1_becomeProduct_111 : decode cX1_becomeProduct 111 = .ok (.iadd, 1) := by decide +kernel
theorem dX1_becomeProduct_112 : decode cX1_becomeProduct 112 = .ok (.lload 4, 2) := by decide +kernel
theorem dX1_becomeProduct_114 : decode cX1_becomeProduct 114 = .ok (.lastore, 1) := by decide +kernel
theorem dX1_becomeProduct_115 : decode cX1_becomeProduct 115 = .ok (.iinc 3 1, 3) := by decide +kernel
theorem dX1_becomeProduct_118 : decode cX1_becomeProduct 118 = .ok (.goto (-97), 3) := by decide +kernel
theorem dX1_becomeProduct_121 : decode cX1_becomeProduct 121 = .ok (.aload_n 0, 1) := by decide +kernel
theorem dX1_becomeProduct_122 : decode cX1_becomeProduct 122 = .ok (.aload_n 1, 1) := by decide +kernel
theorem dX1_becomeProduct_123 : decode cX1_becomeProduct 123 = .ok (.getfield 13, 3) := by decide +kernel
theorem dX1_becomeProduct_126 : decode cX1_becomeProduct 126 = .ok (.aload_n 2, 1) := by decide +kernel
theorem dX1_becomeProduct_127 : decode cX1_becomeProduct 127 = .ok (.getfield 13, 3) := by decide +kernel
theorem dX1_becomeProduct_130 : decode cX1_becomeProduct 130 = .ok (.iadd, 1) := by decide +kernel
theorem dX1_becomeProduct_131 : decode cX1_becomeProduct 131 = .ok (.putfield 13, 3) := by decide +kernel
theorem dX1_becomeProduct_134 : decode cX1_becomeProduct 134 = .ok (.aload_n 0, 1) := by decide +kernel
theorem dX1_becomeProduct_135 : decode cX1_becomeProduct 135 = .ok (.invokevirtual 51, 3) := by decide +kernel
theorem dX1_becomeProduct_138 : decode cX1_becomeProduct 138 = .ok (.return_, 1) := by decide +kernel
set_option maxRecDepth 20000 in
theorem ggX1_raise_X1_close : GoodIn wsX1_raise wsX1_close := goodIn_r _ [9, 1, 3, 14, 15] (by decide +kernel) (by decide +kernel)
set_option maxRecDepth 20000 in
theorem gX1_raise_X1_close : GoodIn wsX1_raise (wsV RX1 47 RX1 yX1_close wsX1_close) := goodIn_app (goodIn_of _ (by decide +kernel)) ggX1_raise_X1_close
set_option maxRecDepth 20000 in
theorem ggX1_raise_X1_shift : GoodIn wsX1_raise wsX1_shift := goodIn_r _ [13, 1, 3, 14, 15] (by decide +kernel) (by decide +kernel)
set_option maxRecDepth 20000 in
theorem gX1_raise_X1_shift : GoodIn wsX1_raise (wsV RX1 54 RX1 yX1_shift wsX1_shift) := goodIn_app (goodIn_of _ (by decide +kernel)) ggX1_raise_X1_shift
theorem dX1_raise_0 : decode cX1_raise 0 = .ok (.iload_n 1, 1) := by decide +kernel
theorem dX1_raise_1 : decode cX1_raise 1 = .ok (.bipush 6, 2) := by decide +kernel
theorem dX1_raise_3 : decode cX1_raise 3 = .ok (.idiv, 1) := by decide +kernel
theorem dX1_raise_4 : decode cX1_raise 4 = .ok (.istore_n 2, 1) := by decide +kernel
theorem dX1_raise_5 : decode cX1_raise 5 = .ok (.aload_n 0, 1) := by decide +kernel
theorem dX1_raise_6 : decode cX1_raise 6 = .ok (.getfield 13, 3) := by decide +kernel
theorem dX1_raise_9 : decode cX1_raise 9 = .ok (.ifCond .eq 18, 3) := by decide +kernel
theorem dX1_raise_12 : decode cX1_raise 12 = .ok (.iload_n 1, 1) := by decide +kernel
theorem dX1_raise_13 : decode cX1_raise 13 = .ok (.ifCond .le 14, 3) := by decide +kernel
theorem dX1_raise_16 : decode cX1_raise 16 = .ok (.aload_n 0, 1) := by decide +kernel
theorem dX1_raise_17 : decode cX1_raise 17 = .ok (.getfield 13, 3) := by decide +kernel
theorem dX1_raise_20 : decode cX1_raise 20 = .ok (.iload_n 2, 1) := by decide +kernel
theorem dX1_raise_21 : decode cX1_raise 21 = .ok (.iadd, 1) := by decide +kernel
theorem dX1_raise_22 : decode cX1_raise 22 = .ok (.bipush 64, 2) := by decide +kernel
theorem dX1_raise_24 : decode cX1_raise 24 = .ok (.if_icmp .lt 4, 3) := by decide +kernel
theorem dX1_raise_27 : decode cX1_raise 27 = .ok (.return_, 1) := by decide +kernel
theorem dX1_raise_28 : decode cX1_raise 28 = .ok (.getstatic 42, 3) := by decide +kernel
theorem dX1_raise_31 : decode cX1_raise 31 = .ok (.iload_n 1, 1) := by decide +kernel
theorem dX1_raise_32 : decode cX1_raise 32 = .ok (.bipush 6, 2) := by decide +kernel
theorem dX1_raise_34 : decode cX1_raise 34 = .ok (.irem, 1) := by decide +kernel
theorem dX1_raise_35 : decode cX1_raise 35 = .ok (.laload, 1) := by decide +kernel
theorem dX1_raise_36 : decode cX1_raise 36 = .ok (.lstore_n 3, 1) := by decide +kernel
theorem dX1_raise_37 : decode cX1_raise 37 = .ok (.lconst 0, 1) := by decide +kernel
theorem dX1_raise_38 : decode cX1_raise 38 = .ok (.lstore 5, 2) := by decide +kernel
theorem dX1_raise_40 : decode cX1_raise 40 = .ok (.iconst 0, 1) := by decide +kernel
theorem dX1_raise_41 : decode cX1_raise 41 = .ok (.istore 7, 2) := by decide +kernel
theorem dX1_raise_43 : decode cX1_raise 43 = .ok (.iload 7, 2) := by decide +kernel
theorem dX1_raise_45 : decode cX1_raise 45 = .ok (.aload_n 0, 1) := by decide +kernel
theorem dX1_raise_46 : decode cX1_raise 46 = .ok (.getfield 13, 3) := by decide +kernel
theorem dX1_raise_49 : decode cX1_raise 49 = .ok (.if_icmp .ge 44, 3) := by decide +kernel
theorem dX1_raise_52 : decode cX1_raise 52 = .ok (.aload_n 0, 1) := by decide +kernel
theorem dX1_raise_53 : decode cX1_raise 53 = .ok (.getfield 9, 3) := by decide +kernel
theorem dX1_raise_56 : decode cX1_raise 56 = .ok (.iload 7, 2) := by decide +kernel
theorem dX1_raise_58 : decode cX1_raise 58 = .ok (.laload, 1) := by decide +kernel
theorem dX1_raise_59 : decode cX1_raise 59 = .ok (.lload_n 3, 1) := by decide +kernel
theorem dX1_raise_60 : decode cX1_raise 60 = .ok (.lmul, 1) := by decide +kernel
theorem dX1_raise_61 : decode cX1_raise 61 = .ok (.lload 5, 2) := by decide +kernel
theorem dX1_raise_63 : decode cX1_raise 63 = .ok (.ladd, 1) := by decide +kernel
theorem dX1_raise_64 : decode cX1_raise 64 = .ok (.lstore 8, 2) := by decide +kernel
theorem dX1_raise_66 : decode cX1_raise 66 = .ok (.aload_n 0, 1) := by decide +kernel
theorem dX1_raise_67 : decode cX1_raise 67 = .ok (.getfield 9, 3) := by decide +kernel
theorem dX1_raise_70 : decode cX1_raise 70 = .ok (.iload 7, 2) := by decide +kernel
theorem dX1_raise_72 : decode cX1_raise 72 = .ok (.lload 8, 2) := by decide +kernel
theorem dX1_raise_74 : decode cX1_raise 74 = .ok (.ldc2_w 26, 3) := by decide +kernel
theorem dX1_raise_77 : decode cX1_raise 77 = .ok (.lrem, 1) := by decide +kernel
theorem dX1_raise_78 : decode cX1_raise 78 = .ok (.lastore, 1) := by decide +kernel
theorem dX1_raise_79 : decode cX1_raise 79 = .ok (.lload 8, 2) := by decide +kernel
theorem dX1_raise_81 : decode cX1_raise 81 = .ok (.ldc2_w 26, 3) := by decide +kernel
theorem dX1_raise_84 : decode cX1_raise 84 = .ok (.ldiv, 1) := by decide +kernel
theorem dX1_raise_85 : decode cX1_raise 85 = .ok (.lstore 5, 2) := by decide +kernel
theorem dX1_raise_87 : decode cX1_raise 87 = .ok (.iinc 7 1, 3) := by decide +kernel
theorem dX1_raise_90 : decode cX1_raise 90 = .ok (.goto (-47), 3) := by decide +kernel
theorem dX1_raise_93 : decode cX1_raise 93 = .ok (.aload_n 0, 1) := by decide +kernel
theorem dX1_raise_94 : decode cX1_raise 94 = .ok (.aload_n 0, 1) := by decide +kernel
theorem dX1_raise_95 : decode cX1_raise 95 = .ok (.getfield 13, 3) := by decide +kernel
theorem dX1_raise_98 : decode cX1_raise 98 = .ok (.lload 5, 2) := by decide +kernel
theorem dX1_raise_100 : decode cX1_raise 100 = .ok (.invokevirtual 47, 3) := by decide +kernel
theorem dX1_raise_103 : decode cX1_raise 103 = .ok (.aload_n 0, 1) := by decide +kernel
theorem dX1_raise_104 : decode cX1_raise 104 = .ok (.iload_n 2, 1) := by decide +kernel
theorem dX1_raise_105 : decode cX1_raise 105 = .ok (.invokevirtual 54, 3) := by decide +kernel
theorem dX1_raise_108 : decode cX1_raise 108 = .ok (.return_, 1) := by decide +kernel
theorem dX1_shift_0 : decode cX1_shift 0 = .ok (.aload_n 0, 1) := by decide +kernel
theorem dX1_shift_1 : decode cX1_shift 1 = .ok (.getfield 13, 3) := by decide +kernel
theorem dX1_shift_4 : decode cX1_shift 4 = .ok (.iconst 1, 1) := by decide +kernel
theorem dX1_shift_5 : decode cX1_shift 5 = .ok (.isub, 1) := by decide +kernel
theorem dX1_shift_6 : decode cX1_shift 6 = .ok (.istore_n 2, 1) := by decide +kernel
theorem dX1_shift_7 : decode cX1_shift 7 = .ok (.iload_n 2, 1) := by decide +kernel
theorem dX1_shift_8 : decode cX1_shift 8 = .ok (.ifCond .lt 23, 3) := by decide +kernel
theorem dX1_shift_11 : decode cX1_shift 11 = .ok (.aload_n 0, 1) := by decide +kernel
theorem dX1_shift_12 : decode cX1_shift 12 = .ok (.getfield 9, 3) := by decide +kernel
theorem dX1_shift_15 : decode cX1_shift 15 = .ok (.iload_n 2, 1) := by decide +kernel
theorem dX1_shift_16 : decode cX1_shift 16 = .ok (.iload_n 1, 1) := by decide +kernel
theorem dX1_shift_17 : decode cX1_shift 17 = .ok (.iadd, 1) := by decide +kernel
theorem dX1_shift_18 : decode cX1_shift 18 = .ok (.aload_n 0, 1) := by decide +kernel
theorem dX1_shift_19 : decode cX1_shift 19 = .ok (.getfield 9, 3) := by decide +kernel
theorem dX1_shift_22 : decode cX1_shift 22 = .ok (.iload_n 2, 1) := by decide +kernel
theorem dX1_shift_23 : decode cX1_shift 23 = .ok (.laload, 1) := by decide +kernel
theorem dX1_shift_24 : decode cX1_shift 24 = .ok (.lastore, 1) := by decide +kernel
theorem dX1_shift_25 : decode cX1_shift 25 = .ok (.iinc 2 (-1), 3) := by decide +kernel
theorem dX1_shift_28 : decode cX1_shift 28 = .ok (.goto (-21), 3) := by decide +kernel
theorem dX1_shift_31 : decode cX1_shift 31 = .ok (.iconst 0, 1) := by decide +kernel
theorem dX1_shift_32 : decode cX1_shift 32 = .ok (.istore_n 2, 1) := by decide +kernel
theorem dX1_shift_33 : decode cX1_shift 33 = .ok (.iload_n 2, 1) := by decide +kernel
theorem dX1_shift_34 : decode cX1_shift 34 = .ok (.iload_n 1, 1) := by decide +kernel
theorem dX1_shift_35 : decode cX1_shift 35 = .ok (.if_icmp .ge 16, 3) := by decide +kernel
theorem dX1_shift_38 : decode cX1_shift 38 = .ok (.aload_n 0, 1) := by decide +kernel
theorem dX1_shift_39 : decode cX1_shift 39 = .ok (.getfield 9, 3) := by decide +kernel
theorem dX1_shift_42 : decode cX1_shift 42 = .ok (.iload_n 2, 1) := by decide +kernel
theorem dX1_shift_43 : decode cX1_shift 43 = .ok (.lconst 0, 1) := by decide +kernel
theorem dX1_shift_44 : decode cX1_shift 44 = .ok (.lastore, 1) := by decide +kernel
theorem dX1_shift_45 : decode cX1_shift 45 = .ok (.iinc 2 1, 3) := by decide +kernel
theorem dX1_shift_48 : decode cX1_shift 48 = .ok (.goto (-15), 3) := by decide +kernel
theorem dX1_shift_51 : decode cX1_shift 51 = .ok (.aload_n 0, 1) := by decide +kernel
theorem dX1_shift_52 : decode cX1_shift 52 = .ok (.dup, 1) := by decide +kernel
theorem dX1_shift_53 : decode cX1_shift 53 = .ok (.getfield 13, 3) := by decide +kernel
theorem dX1_shift_56 : decode cX1_shift 56 = .ok (.iload_n 1, 1) := by decide +kernel
theorem dX1_shift_57 : decode cX1_shift 57 = .ok (.iadd, 1) := by decide +kernel
theorem dX1_shift_58 : decode cX1_shift 58 = .ok (.putfield 13, 3) := by decide +kernel
theorem dX1_shift_61 : decode cX1_shift 61 = .ok (.return_, 1) := by decide +kernel
set_option maxRecDepth 20000 in
theorem ggX1_takeOut_X1_clear : GoodIn wsX1_takeOut wsX1_clear := goodIn_r _ [8, 1, 2, 26, 27] (by decide +kernel) (by decide +kernel)
set_option maxRecDepth 20000 in
theorem gX1_takeOut_X1_clear : GoodIn wsX1_takeOut (wsV RX1 23 RX1 yX1_clear wsX1_clear) := goodIn_app (goodIn_of _ (by decide +kernel)) ggX1_takeOut_X1_clear
set_option maxRecDepth 20000 in
theorem ggX1_takeOut_X1_guess : GoodIn wsX1_takeOut wsX1_guess := goodIn_r _ [12, 1, 2, 13, 26, 27] (by decide +kernel) (by decide +kernel)
set_option maxRecDepth 20000 in
theorem gX1_takeOut_X1_guess : GoodIn wsX1_takeOut (wsV RX1 58 RX1 yX1_guess wsX1_guess) := goodIn_app (goodIn_of _ (by decide +kernel)) ggX1_takeOut_X1_guess
set_option maxRecDepth 20000 in
theorem ggX1_takeOut_X1_takeAway : GoodIn wsX1_takeOut wsX1_takeAway := goodIn_r _ [17, 1, 2, 13, 18, 19, 20, 21, 26, 27] (by decide +kernel) (by decide +kernel)
set_option maxRecDepth 20000 in
theorem gX1_takeOut_X1_takeAway : GoodIn wsX1_takeOut (wsV RX1 62 RX1 yX1_takeAway wsX1_takeAway) := goodIn_app (goodIn_of _ (by decide +kernel)) ggX1_takeOut_X1_takeAway
set_option maxRecDepth 20000 in
theorem ggX1_takeOut_X1_shrink : GoodIn wsX1_takeOut wsX1_shrink := goodIn_r _ [25, 1, 2, 26, 27] (by decide +kernel) (by decide +kernel)
set_option maxRecDepth 20000 in
theorem gX1_takeOut_X1_shrink : GoodIn wsX1_takeOut (wsV RX1 51 RX1 yX1_shrink wsX1_shrink) := goodIn_app (goodIn_of _ (by decide +kernel)) ggX1_takeOut_X1_shrink
theorem dX1_takeOut_0 : decode cX1_takeOut 0 = .ok (.aload_n 2, 1) := by decide +kernel
theorem dX1_takeOut_1 : decode cX1_takeOut 1 = .ok (.invokevirtual 23, 3) := by decide +kernel
theorem dX1_takeOut_4 : decode cX1_takeOut 4 = .ok (.aload_n 1, 1) := by decide +kernel
theorem dX1_takeOut_5 : decode cX1_takeOut 5 = .ok (.getfield 13, 3) := by decide +kernel
theorem dX1_takeOut_8 : decode cX1_takeOut 8 = .ok (.ifCond .eq 23, 3) := by decide +kernel
theorem dX1_takeOut_11 : decode cX1_takeOut 11 = .ok (.aload_n 0, 1) := by decide +kernel
theorem dX1_takeOut_12 : decode cX1_takeOut 12 = .ok (.getfield 13, 3) := by decide +kernel
theorem dX1_takeOut_15 : decode cX1_takeOut 15 = .ok (.aload_n 1, 1) := by decide +kernel
theorem dX1_takeOut_16 : decode cX1_takeOut 16 = .ok (.getfield 13, 3) := by decide +kernel
theorem dX1_takeOut_19 : decode cX1_takeOut 19 = .ok (.if_icmp .lt 12, 3) := by decide +kernel
theorem dX1_takeOut_22 : decode cX1_takeOut 22 = .ok (.aload_n 0, 1) := by decide +kernel
theorem dX1_takeOut_23 : decode cX1_takeOut 23 = .ok (.getfield 13, 3) := by decide +kernel
theorem dX1_takeOut_26 : decode cX1_takeOut 26 = .ok (.bipush 64, 2) := by decide +kernel
theorem dX1_takeOut_28 : decode cX1_takeOut 28 = .ok (.if_icmp .lt 4, 3) := by decide +kernel
theorem dX1_takeOut_31 : decode cX1_takeOut 31 = .ok (.return_, 1) := by decide +kernel
theorem dX1_takeOut_32 : decode cX1_takeOut 32 = .ok (.aload_n 0, 1) := by decide +kernel
theorem dX1_takeOut_33 : decode cX1_takeOut 33 = .ok (.getfield 13, 3) := by decide +kernel
theorem dX1_takeOut_36 : decode cX1_takeOut 36 = .ok (.aload_n 1, 1) := by decide +kernel
theorem dX1_takeOut_37 : decode cX1_takeOut 37 = .ok (.getfield 13, 3) := by decide +kernel
theorem dX1_takeOut_40 : decode cX1_takeOut 40 = .ok (.isub, 1) := by decide +kernel
theorem dX1_takeOut_41 : decode cX1_takeOut 41 = .ok (.istore_n 3, 1) := by decide +kernel
theorem dX1_takeOut_42 : decode cX1_takeOut 42 = .ok (.iload_n 3, 1) := by decide +kernel
theorem dX1_takeOut_43 : decode cX1_takeOut 43 = .ok (.istore 4, 2) := by decide +kernel
theorem dX1_takeOut_45 : decode cX1_takeOut 45 = .ok (.iload 4, 2) := by decide +kernel
theorem dX1_takeOut_47 : decode cX1_takeOut 47 = .ok (.ifCond .lt 69, 3) := by decide +kernel
theorem dX1_takeOut_50 : decode cX1_takeOut 50 = .ok (.aload_n 0, 1) := by decide +kernel
theorem dX1_takeOut_51 : decode cX1_takeOut 51 = .ok (.aload_n 1, 1) := by decide +kernel
theorem dX1_takeOut_52 : decode cX1_takeOut 52 = .ok (.iload 4, 2) := by decide +kernel
theorem dX1_takeOut_54 : decode cX1_takeOut 54 = .ok (.invokevirtual 58, 3) := by decide +kernel
theorem dX1_takeOut_57 : decode cX1_takeOut 57 = .ok (.lstore 5, 2) := by decide +kernel
theorem dX1_takeOut_59 : decode cX1_takeOut 59 = .ok (.aload_n 0, 1) := by decide +kernel
theorem dX1_takeOut_60 : decode cX1_takeOut 60 = .ok (.aload_n 1, 1) := by decide +kernel
theorem dX1_takeOut_61 : decode cX1_takeOut 61 = .ok (.lload 5, 2) := by decide +kernel
theorem dX1_takeOut_63 : decode cX1_takeOut 63 = .ok (.iload 4, 2) := by decide +kernel
theorem dX1_takeOut_65 : decode cX1_takeOut 65 = .ok (.invokevirtual 62, 3) := by decide +kernel
theorem dX1_takeOut_68 : decode cX1_takeOut 68 = .ok (.aload_n 0, 1) := by decide +kernel
theorem dX1_takeOut_69 : decode cX1_takeOut 69 = .ok (.getfield 9, 3) := by decide +kernel
theorem dX1_takeOut_72 : decode cX1_takeOut 72 = .ok (.iload 4, 2) := by decide +kernel
theorem dX1_takeOut_74 : decode cX1_takeOut 74 = .ok (.aload_n 1, 1) := by decide +kernel
theorem dX1_takeOut_75 : decode cX1_takeOut 75 = .ok (.getfield 13, 3) := by decide +kernel
theorem dX1_takeOut_78 : decode cX1_takeOut 78 = .ok (.iadd, 1) := by decide +kernel
theorem dX1_takeOut_79 : decode cX1_takeOut 79 = .ok (.laload, 1) := by decide +kernel
theorem dX1_takeOut_80 : decode cX1_takeOut 80 = .ok (.lconst 0, 1) := by decide +kernel
theorem dX1_takeOut_81 : decode cX1_takeOut 81 = .ok (.lcmp, 1) := by decide +kernel
theorem dX1_takeOut_82 : decode cX1_takeOut 82 = .ok (.ifCond .ge 19, 3) := by decide +kernel
theorem dX1_takeOut_85 : decode cX1_takeOut 85 = .ok (.aload_n 0, 1) := by decide +kernel
theorem dX1_takeOut_86 : decode cX1_takeOut 86 = .ok (.aload_n 1, 1) := by decide +kernel
theorem dX1_takeOut_87 : decode cX1_takeOut 87 = .ok (.ldc2_w 66, 3) := by decide +kernel
theorem dX1_takeOut_90 : decode cX1_takeOut 90 = .ok (.iload 4, 2) := by decide +kernel
theorem dX1_takeOut_92 : decode cX1_takeOut 92 = .ok (.invokevirtual 62, 3) := by decide +kernel
theorem dX1_takeOut_95 : decode cX1_takeOut 95 = .ok (.lload 5, 2) := by decide +kernel
theorem dX1_takeOut_97 : decode cX1_takeOut 97 = .ok (.lconst 1, 1) := by decide +kernel
theorem dX1_takeOut_98 : decode cX1_takeOut 98 = .ok (.lsub, 1) := by decide +kernel
theorem dX1_takeOut_99 : decode cX1_takeOut 99 = .ok (.lstore 5, 2) := by decide +kernel
theorem dX1_takeOut_101 : decode cX1_takeOut 101 = .ok (.aload_n 2, 1) := by decide +kernel
theorem dX1_takeOut_102 : decode cX1_takeOut 102 = .ok (.getfield 9, 3) := by decide +kernel
theorem dX1_takeOut_105 : decode cX1_takeOut 105 = .ok (.iload 4, 2) := by decide +kernel
theorem dX1_takeOut_107 : decode cX1_takeOut 107 = .ok (.lload 5, 2) := by decide +kernel
theorem dX1_takeOut_109 : decode cX1_takeOut 109 = .ok (.lastore, 1) := by decide +kernel
theorem dX1_takeOut_110 : decode cX1_takeOut 110 = .ok (.iinc 4 (-1), 3) := by decide +kernel
theorem dX1_takeOut_113 : decode cX1_takeOut 113 = .ok (.goto (-68), 3) := by decide +kernel
theorem dX1_takeOut_116 : decode cX1_takeOut 116 = .ok (.aload_n 2, 1) := by decide +kernel
theorem dX1_takeOut_117 : decode cX1_takeOut 117 = .ok (.iload_n 3, 1) := by decide +kernel
theorem dX1_takeOut_118 : decode cX1_takeOut 118 = .ok (.iconst 1, 1) := by decide +kernel
theorem dX1_takeOut_119 : decode cX1_takeOut 119 = .ok (.iadd, 1) := by decide +kernel
theorem dX1_takeOut_120 : decode cX1_takeOut 120 = .ok (.putfield 13, 3) := by decide +kernel
theorem dX1_takeOut_123 : decode cX1_takeOut 123 = .ok (.aload_n 2, 1) := by decide +kernel
theorem dX1_takeOut_124 : decode cX1_takeOut 124 = .ok (.invokevirtual 51, 3) := by decide +kernel
theorem dX1_takeOut_127 : decode cX1_takeOut 127 = .ok (.aload_n 0, 1) := by decide +kernel
theorem dX1_takeOut_128 : decode cX1_takeOut 128 = .ok (.invokevirtual 51, 3) := by decide +kernel
theorem dX1_takeOut_131 : decode cX1_takeOut 131 = .ok (.return_, 1) := by decide +kernel
theorem dX1_guess_0 : decode cX1_guess 0 = .ok (.aload_n 1, 1) := by decide +kernel
theorem dX1_guess_1 : decode cX1_guess 1 = .ok (.getfield 13, 3) := by decide +kernel
theorem dX1_guess_4 : decode cX1_guess 4 = .ok (.iconst 1, 1) := by decide +kernel
theorem dX1_guess_5 : decode cX1_guess 5 = .ok (.isub, 1) := by decide +kernel
theorem dX1_guess_6 : decode cX1_guess 6 = .ok (.istore_n 3, 1) := by decide +kernel
theorem dX1_guess_7 : decode cX1_guess 7 = .ok (.aload_n 0, 1) := by decide +kernel
theorem dX1_guess_8 : decode cX1_guess 8 = .ok (.getfield 9, 3) := by decide +kernel
theorem dX1_guess_11 : decode cX1_guess 11 = .ok (.iload_n 2, 1) := by decide +kernel
theorem dX1_guess_12 : decode cX1_guess 12 = .ok (.iload_n 3, 1) := by decide +kernel
theorem dX1_guess_13 : decode cX1_guess 13 = .ok (.iadd, 1) := by decide +kernel
theorem dX1_guess_14 : decode cX1_guess 14 = .ok (.iconst 1, 1) := by decide +kernel
theorem dX1_guess_15 : decode cX1_guess 15 = .ok (.iadd, 1) := by decide +kernel
theorem dX1_guess_16 : decode cX1_guess 16 = .ok (.laload, 1) := by decide +kernel
theorem dX1_guess_17 : decode cX1_guess 17 = .ok (.ldc2_w 26, 3) := by decide +kernel
theorem dX1_guess_20 : decode cX1_guess 20 = .ok (.lmul, 1) := by decide +kernel
theorem dX1_guess_21 : decode cX1_guess 21 = .ok (.aload_n 0, 1) := by decide +kernel
theorem dX1_guess_22 : decode cX1_guess 22 = .ok (.getfield 9, 3) := by decide +kernel
theorem dX1_guess_25 : decode cX1_guess 25 = .ok (.iload_n 2, 1) := by decide +kernel
theorem dX1_guess_26 : decode cX1_guess 26 = .ok (.iload_n 3, 1) := by decide +kernel
theorem dX1_guess_27 : decode cX1_guess 27 = .ok (.iadd, 1) := by decide +kernel
theorem dX1_guess_28 : decode cX1_guess 28 = .ok (.laload, 1) := by decide +kernel
theorem dX1_guess_29 : decode cX1_guess 29 = .ok (.ladd, 1) := by decide +kernel
theorem dX1_guess_30 : decode cX1_guess 30 = .ok (.ldc2_w 26, 3) := by decide +kernel
theorem dX1_guess_33 : decode cX1_guess 33 = .ok (.lmul, 1) := by decide +kernel
theorem dX1_guess_34 : decode cX1_guess 34 = .ok (.lstore 4, 2) := by decide +kernel
theorem dX1_guess_36 : decode cX1_guess 36 = .ok (.aload_n 1, 1) := by decide +kernel
theorem dX1_guess_37 : decode cX1_guess 37 = .ok (.getfield 9, 3) := by decide +kernel
theorem dX1_guess_40 : decode cX1_guess 40 = .ok (.iload_n 3, 1) := by decide +kernel
theorem dX1_guess_41 : decode cX1_guess 41 = .ok (.laload, 1) := by decide +kernel
theorem dX1_guess_42 : decode cX1_guess 42 = .ok (.ldc2_w 26, 3) := by decide +kernel
theorem dX1_guess_45 : decode cX1_guess 45 = .ok (.lmul, 1) := by decide +kernel
theorem dX1_guess_46 : decode cX1_guess 46 = .ok (.lstore 6, 2) := by decide +kernel
theorem dX1_guess_48 : decode cX1_guess 48 = .ok (.iload_n 3, 1) := by decide +kernel
theorem dX1_guess_49 : decode cX1_guess 49 = .ok (.ifCond .le 31, 3) := by decide +kernel
theorem dX1_guess_52 : decode cX1_guess 52 = .ok (.lload 4, 2) := by decide +kernel
theorem dX1_guess_54 : decode cX1_guess 54 = .ok (.aload_n 0, 1) := by decide +kernel
theorem dX1_guess_55 : decode cX1_guess 55 = .ok (.getfield 9, 3) := by decide +kernel
theorem dX1_guess_58 : decode cX1_guess 58 = .ok (.iload_n 2, 1) := by decide +kernel
theorem dX1_guess_59 : decode cX1_guess 59 = .ok (.iload_n 3, 1) := by decide +kernel
theorem dX1_guess_60 : decode cX1_guess 60 = .ok (.iadd, 1) := by decide +kernel
theorem dX1_guess_61 : decode cX1_guess 61 = .ok (.iconst 1, 1) := by decide +kernel
theorem dX1_guess_62 : decode cX1_guess 62 = .ok (.isub, 1) := by decide +kernel
theorem dX1_guess_63 : decode cX1_guess 63 = .ok (.laload, 1) := by decide +kernel
theorem dX1_guess_64 : decode cX1_guess 64 = .ok (.ladd, 1) := by decide +kernel
theorem dX1_guess_65 : decode cX1_guess 65 = .ok (.lstore 4, 2) := by decide +kernel
theorem dX1_guess_67 : decode cX1_guess 67 = .ok (.lload 6, 2) := by decide +kernel
theorem dX1_guess_69 : decode cX1_guess 69 = .ok (.aload_n 1, 1) := by decide +kernel
theorem dX1_guess_70 : decode cX1_guess 70 = .ok (.getfield 9, 3) := by decide +kernel
theorem dX1_guess_73 : decode cX1_guess 73 = .ok (.iload_n 3, 1) := by decide +kernel
theorem dX1_guess_74 : decode cX1_guess 74 = .ok (.iconst 1, 1) := by decide +kernel
theorem dX1_guess_75 : decode cX1_guess 75 = .ok (.isub, 1) := by decide +kernel
theorem dX1_guess_76 : decode cX1_guess 76 = .ok (.laload, 1) := by decide +kernel
theorem dX1_guess_77 : decode cX1_guess 77 = .ok (.ladd, 1) := by decide +kernel
theorem dX1_guess_78 : decode cX1_guess 78 = .ok (.lstore 6, 2) := by decide +kernel
theorem dX1_guess_80 : decode cX1_guess 80 = .ok (.lload 6, 2) := by decide +kernel
theorem dX1_guess_82 : decode cX1_guess 82 = .ok (.lconst 0, 1) := by decide +kernel
theorem dX1_guess_83 : decode cX1_guess 83 = .ok (.lcmp, 1) := by decide +kernel
theorem dX1_guess_84 : decode cX1_guess 84 = .ok (.ifCond .ne 7, 3) := by decide +kernel
theorem dX1_guess_87 : decode cX1_guess 87 = .ok (.lconst 0, 1) := by decide +kernel
theorem dX1_guess_88 : decode cX1_guess 88 = .ok (.goto 8, 3) := by decide +kernel
theorem dX1_guess_91 : decode cX1_guess 91 = .ok (.lload 4, 2) := by decide +kernel
theorem dX1_guess_93 : decode cX1_guess 93 = .ok (.lload 6, 2) := by decide +kernel
theorem dX1_guess_95 : decode cX1_guess 95 = .ok (.ldiv, 1) := by decide +kernel
theorem dX1_guess_96 : decode cX1_guess 96 = .ok (.lreturn, 1) := by decide +kernel
set_option maxRecDepth 20000 in
theorem ggX1_takeAway_J9_floorDiv_f86c9 : GoodIn wsX1_takeAway wsJ9_floorDiv_f86c9 := goodIn_r _ [7] (by decide +kernel) (by decide +kernel)
set_option maxRecDepth 20000 in
theorem gX1_takeAway_J9_floorDiv_f86c9 : GoodIn wsX1_takeAway (va_wsS RX1 68 yJ9_floorDiv_f86c9 wsJ9_floorDiv_f86c9) := goodIn_app (goodIn_of _ (by decide +kernel)) ggX1_takeAway_J9_floorDiv_f86c9
theorem dX1_takeAway_0 : decode cX1_takeAway 0 = .ok (.lconst 0, 1) := by decide +kernel
theorem dX1_takeAway_1 : decode cX1_takeAway 1 = .ok (.lstore 5, 2) := by decide +kernel
theorem dX1_takeAway_3 : decode cX1_takeAway 3 = .ok (.iconst 0, 1) := by decide +kernel
theorem dX1_takeAway_4 : decode cX1_takeAway 4 = .ok (.istore 7, 2) := by decide +kernel
theorem dX1_takeAway_6 : decode cX1_takeAway 6 = .ok (.iload 7, 2) := by decide +kernel
theorem dX1_takeAway_8 : decode cX1_takeAway 8 = .ok (.aload_n 1, 1) := by decide +kernel
theorem dX1_takeAway_9 : decode cX1_takeAway 9 = .ok (.getfield 13, 3) := by decide +kernel
theorem dX1_takeAway_12 : decode cX1_takeAway 12 = .ok (.if_icmp .ge 63, 3) := by decide +kernel
theorem dX1_takeAway_15 : decode cX1_takeAway 15 = .ok (.aload_n 0, 1) := by decide +kernel
theorem dX1_takeAway_16 : decode cX1_takeAway 16 = .ok (.getfield 9, 3) := by decide +kernel
theorem dX1_takeAway_19 : decode cX1_takeAway 19 = .ok (.iload 4, 2) := by decide +kernel
theorem dX1_takeAway_21 : decode cX1_takeAway 21 = .ok (.iload 7, 2) := by decide +kernel
theorem dX1_takeAway_23 : decode cX1_takeAway 23 = .ok (.iadd, 1) := by decide +kernel
theorem dX1_takeAway_24 : decode cX1_takeAway 24 = .ok (.laload, 1) := by decide +kernel
theorem dX1_takeAway_25 : decode cX1_takeAway 25 = .ok (.lload_n 2, 1) := by decide +kernel
theorem dX1_takeAway_26 : decode cX1_takeAway 26 = .ok (.aload_n 1, 1) := by decide +kernel
theorem dX1_takeAway_27 : decode cX1_takeAway 27 = .ok (.getfield 9, 3) := by decide +kernel
theorem dX1_takeAway_30 : decode cX1_takeAway 30 = .ok (.iload 7, 2) := by decide +kernel
theorem dX1_takeAway_32 : decode cX1_takeAway 32 = .ok (.laload, 1) := by decide +kernel
theorem dX1_takeAway_33 : decode cX1_takeAway 33 = .ok (.lmul, 1) := by decide +kernel
theorem dX1_takeAway_34 : decode cX1_takeAway 34 = .ok (.lsub, 1) := by decide +kernel
theorem dX1_takeAway_35 : decode cX1_takeAway 35 = .ok (.lload 5, 2) := by decide +kernel
theorem dX1_takeAway_37 : decode cX1_takeAway 37 = .ok (.ladd, 1) := by decide +kernel
theorem dX1_takeAway_38 : decode cX1_takeAway 38 = .ok (.lstore 8, 2) := by decide +kernel
theorem dX1_takeAway_40 : decode cX1_takeAway 40 = .ok (.lload 8, 2) := by decide +kernel
theorem dX1_takeAway_42 : decode cX1_takeAway 42 = .ok (.ldc2_w 26, 3) := by decide +kernel
theorem dX1_takeAway_45 : decode cX1_takeAway 45 = .ok (.invokestatic 68, 3) := by decide +kernel
theorem dX1_takeAway_48 : decode cX1_takeAway 48 = .ok (.lstore 5, 2) := by decide +kernel
theorem dX1_takeAway_50 : decode cX1_takeAway 50 = .ok (.aload_n 0, 1) := by decide +kernel
theorem dX1_takeAway_51 : decode cX1_takeAway 51 = .ok (.getfield 9, 3) := by decide +kernel
theorem dX1_takeAway_54 : decode cX1_takeAway 54 = .ok (.iload 4, 2) := by decide +kernel
theorem dX1_takeAway_56 : decode cX1_takeAway 56 = .ok (.iload 7, 2) := by decide +kernel
theorem dX1_takeAway_58 : decode cX1_takeAway 58 = .ok (.iadd, 1) := by decide +kernel
theorem dX1_takeAway_59 : decode cX1_takeAway 59 = .ok (.lload 8, 2) := by decide +kernel
theorem dX1_takeAway_61 : decode cX1_takeAway 61 = .ok (.lload 5, 2) := by decide +kernel
theorem dX1_takeAway_63 : decode cX1_takeAway 63 = .ok (.ldc2_w 26, 3) := by decide +kernel
theorem dX1_takeAway_66 : decode cX1_takeAway 66 = .ok (.lmul, 1) := by decide +kernel
theorem dX1_takeAway_67 : decode cX1_takeAway 67 = .ok (.lsub, 1) := by decide +kernel
theorem dX1_takeAway_68 : decode cX1_takeAway 68 = .ok (.lastore, 1) := by decide +kernel
theorem dX1_takeAway_69 : decode cX1_takeAway 69 = .ok (.iinc 7 1, 3) := by decide +kernel
theorem dX1_takeAway_72 : decode cX1_takeAway 72 = .ok (.goto (-66), 3) := by decide +kernel
theorem dX1_takeAway_75 : decode cX1_takeAway 75 = .ok (.aload_n 0, 1) := by decide +kernel
theorem dX1_takeAway_76 : decode cX1_takeAway 76 = .ok (.getfield 9, 3) := by decide +kernel
theorem dX1_takeAway_79 : decode cX1_takeAway 79 = .ok (.iload 4, 2) := by decide +kernel
theorem dX1_takeAway_81 : decode cX1_takeAway 81 = .ok (.aload_n 1, 1) := by decide +kernel
theorem dX1_takeAway_82 : decode cX1_takeAway 82 = .ok (.getfield 13, 3) := by decide +kernel
theorem dX1_takeAway_85 : decode cX1_takeAway 85 = .ok (.iadd, 1) := by decide +kernel
theorem dX1_takeAway_86 : decode cX1_takeAway 86 = .ok (.dup2, 1) := by decide +kernel
theorem dX1_takeAway_87 : decode cX1_takeAway 87 = .ok (.laload, 1) := by decide +kernel
theorem dX1_takeAway_88 : decode cX1_takeAway 88 = .ok (.lload 5, 2) := by decide +kernel
theorem dX1_takeAway_90 : decode cX1_takeAway 90 = .ok (.ladd, 1) := by decide +kernel
theorem dX1_takeAway_91 : decode cX1_takeAway 91 = .ok (.lastore, 1) := by decide +kernel
theorem dX1_takeAway_92 : decode cX1_takeAway 92 = .ok (.return_, 1) := by decide +kernel
theorem dX1_close_0 : decode cX1_close 0 = .ok (.aload_n 0, 1) := by decide +kernel
theorem dX1_close_1 : decode cX1_close 1 = .ok (.iload_n 1, 1) := by decide +kernel
theorem dX1_close_2 : decode cX1_close 2 = .ok (.putfield 13, 3) := by decide +kernel
theorem dX1_close_5 : decode cX1_close 5 = .ok (.lload_n 2, 1) := by decide +kernel
theorem dX1_close_6 : decode cX1_close 6 = .ok (.lconst 0, 1) := by decide +kernel
theorem dX1_close_7 : decode cX1_close 7 = .ok (.lcmp, 1) := by decide +kernel
theorem dX1_close_8 : decode cX1_close 8 = .ok (.ifCond .eq 23, 3) := by decide +kernel
theorem dX1_close_11 : decode cX1_close 11 = .ok (.iload_n 1, 1) := by decide +kernel
theorem dX1_close_12 : decode cX1_close 12 = .ok (.bipush 64, 2) := by decide +kernel
theorem dX1_close_14 : decode cX1_close 14 = .ok (.if_icmp .ge 17, 3) := by decide +kernel
theorem dX1_close_17 : decode cX1_close 17 = .ok (.aload_n 0, 1) := by decide +kernel
theorem dX1_close_18 : decode cX1_close 18 = .ok (.getfield 9, 3) := by decide +kernel
theorem dX1_close_21 : decode cX1_close 21 = .ok (.iload_n 1, 1) := by decide +kernel
theorem dX1_close_22 : decode cX1_close 22 = .ok (.lload_n 2, 1) := by decide +kernel
theorem dX1_close_23 : decode cX1_close 23 = .ok (.lastore, 1) := by decide +kernel
theorem dX1_close_24 : decode cX1_close 24 = .ok (.aload_n 0, 1) := by decide +kernel
theorem dX1_close_25 : decode cX1_close 25 = .ok (.iload_n 1, 1) := by decide +kernel
theorem dX1_close_26 : decode cX1_close 26 = .ok (.iconst 1, 1) := by decide +kernel
theorem dX1_close_27 : decode cX1_close 27 = .ok (.iadd, 1) := by decide +kernel
theorem dX1_close_28 : decode cX1_close 28 = .ok (.putfield 13, 3) := by decide +kernel
theorem dX1_close_31 : decode cX1_close 31 = .ok (.return_, 1) := by decide +kernel
theorem dX1_shrink_0 : decode cX1_shrink 0 = .ok (.aload_n 0, 1) := by decide +kernel
theorem dX1_shrink_1 : decode cX1_shrink 1 = .ok (.getfield 13, 3) := by decide +kernel
theorem dX1_shrink_4 : decode cX1_shrink 4 = .ok (.ifCond .le 32, 3) := by decide +kernel
theorem dX1_shrink_7 : decode cX1_shrink 7 = .ok (.aload_n 0, 1) := by decide +kernel
theorem dX1_shrink_8 : decode cX1_shrink 8 = .ok (.getfield 9, 3) := by decide +kernel
theorem dX1_shrink_11 : decode cX1_shrink 11 = .ok (.aload_n 0, 1) := by decide +kernel
theorem dX1_shrink_12 : decode cX1_shrink 12 = .ok (.getfield 13, 3) := by decide +kernel
theorem dX1_shrink_15 : decode cX1_shrink 15 = .ok (.iconst 1, 1) := by decide +kernel
theorem dX1_shrink_16 : decode cX1_shrink 16 = .ok (.isub, 1) := by decide +kernel
theorem dX1_shrink_17 : decode cX1_shrink 17 = .ok (.laload, 1) := by decide +kernel
theorem dX1_shrink_18 : decode cX1_shrink 18 = .ok (.lconst 0, 1) := by decide +kernel
theorem dX1_shrink_19 : decode cX1_shrink 19 = .ok (.lcmp, 1) := by decide +kernel
theorem dX1_shrink_20 : decode cX1_shrink 20 = .ok (.ifCond .ne 16, 3) := by decide +kernel
theorem dX1_shrink_23 : decode cX1_shrink 23 = .ok (.aload_n 0, 1) := by decide +kernel
theorem dX1_shrink_24 : decode cX1_shrink 24 = .ok (.dup, 1) := by decide +kernel
theorem dX1_shrink_25 : decode cX1_shrink 25 = .ok (.getfield 13, 3) := by decide +kernel
theorem dX1_shrink_28 : decode cX1_shrink 28 = .ok (.iconst 1, 1) := by decide +kernel
theorem dX1_shrink_29 : decode cX1_shrink 29 = .ok (.isub, 1) := by decide +kernel
theorem dX1_shrink_30 : decode cX1_shrink 30 = .ok (.putfield 13, 3) := by decide +kernel
theorem dX1_shrink_33 : decode cX1_shrink 33 = .ok (.goto (-33), 3) := by decide +kernel
theorem dX1_shrink_36 : decode cX1_shrink 36 = .ok (.return_, 1) := by decide +kernel
theorem dJ9_floorDiv_f86c9_0 : decode cJ9_floorDiv_f86c9 0 = .ok (.lload_n 0, 1) := by decide +kernel
theorem dJ9_floorDiv_f86c9_1 : decode cJ9_floorDiv_f86c9 1 = .ok (.lload_n 2, 1) := by decide +kernel
theorem dJ9_floorDiv_f86c9_2 : decode cJ9_floorDiv_f86c9 2 = .ok (.ldiv, 1) := by decide +kernel
theorem dJ9_floorDiv_f86c9_3 : decode cJ9_floorDiv_f86c9 3 = .ok (.lstore 4, 2) := by decide +kernel
theorem dJ9_floorDiv_f86c9_5 : decode cJ9_floorDiv_f86c9 5 = .ok (.lload_n 0, 1) := by decide +kernel
theorem dJ9_floorDiv_f86c9_6 : decode cJ9_floorDiv_f86c9 6 = .ok (.lload_n 2, 1) := by decide +kernel
theorem dJ9_floorDiv_f86c9_7 : decode cJ9_floorDiv_f86c9 7 = .ok (.lxor, 1) := by decide +kernel
theorem dJ9_floorDiv_f86c9_8 : decode cJ9_floorDiv_f86c9 8 = .ok (.lconst 0, 1) := by decide +kernel
theorem dJ9_floorDiv_f86c9_9 : decode cJ9_floorDiv_f86c9 9 = .ok (.lcmp, 1) := by decide +kernel
theorem dJ9_floorDiv_f86c9_10 : decode cJ9_floorDiv_f86c9 10 = .ok (.ifCond .ge 17, 3) := by decide +kernel
theorem dJ9_floorDiv_f86c9_13 : decode cJ9_floorDiv_f86c9 13 = .ok (.lload 4, 2) := by decide +kernel
theorem dJ9_floorDiv_f86c9_15 : decode cJ9_floorDiv_f86c9 15 = .ok (.lload_n 2, 1) := by decide +kernel
theorem dJ9_floorDiv_f86c9_16 : decode cJ9_floorDiv_f86c9 16 = .ok (.lmul, 1) := by decide +kernel
theorem dJ9_floorDiv_f86c9_17 : decode cJ9_floorDiv_f86c9 17 = .ok (.lload_n 0, 1) := by decide +kernel
theorem dJ9_floorDiv_f86c9_18 : decode cJ9_floorDiv_f86c9 18 = .ok (.lcmp, 1) := by decide +kernel
theorem dJ9_floorDiv_f86c9_19 : decode cJ9_floorDiv_f86c9 19 = .ok (.ifCond .eq 8, 3) := by decide +kernel
theorem dJ9_floorDiv_f86c9_22 : decode cJ9_floorDiv_f86c9 22 = .ok (.lload 4, 2) := by decide +kernel
theorem dJ9_floorDiv_f86c9_24 : decode cJ9_floorDiv_f86c9 24 = .ok (.lconst 1, 1) := by decide +kernel
theorem dJ9_floorDiv_f86c9_25 : decode cJ9_floorDiv_f86c9 25 = .ok (.lsub, 1) := by decide +kernel
theorem dJ9_floorDiv_f86c9_26 : decode cJ9_floorDiv_f86c9 26 = .ok (.lreturn, 1) := by decide +kernel
theorem dJ9_floorDiv_f86c9_27 : decode cJ9_floorDiv_f86c9 27 = .ok (.lload 4, 2) := by decide +kernel
theorem dJ9_floorDiv_f86c9_29 : decode cJ9_floorDiv_f86c9 29 = .ok (.lreturn, 1) := by decide +kernel
theorem dJ9_abs_067f4_0 : decode cJ9_abs_067f4 0 = .ok (.lload_n 0, 1) := by decide +kernel
theorem dJ9_abs_067f4_1 : decode cJ9_abs_067f4 1 = .ok (.lconst 0, 1) := by decide +kernel
theorem dJ9_abs_067f4_2 : decode cJ9_abs_067f4 2 = .ok (.lcmp, 1) := by decide +kernel
theorem dJ9_abs_067f4_3 : decode cJ9_abs_067f4 3 = .ok (.ifCond .ge 8, 3) := by decide +kernel
theorem dJ9_abs_067f4_6 : decode cJ9_abs_067f4 6 = .ok (.lload_n 0, 1) := by decide +kernel
theorem dJ9_abs_067f4_7 : decode cJ9_abs_067f4 7 = .ok (.lneg, 1) := by decide +kernel
theorem dJ9_abs_067f4_8 : decode cJ9_abs_067f4 8 = .ok (.goto 4, 3) := by decide +kernel
theorem dJ9_abs_067f4_11 : decode cJ9_abs_067f4 11 = .ok (.lload_n 0, 1) := by decide +kernel
theorem dJ9_abs_067f4_12 : decode cJ9_abs_067f4 12 = .ok (.lreturn, 1) := by decide +kernel
theorem dJ9_max_7cf53_0 : decode cJ9_max_7cf53 0 = .ok (.iload_n 0, 1) := by decide +kernel
theorem dJ9_max_7cf53_1 : decode cJ9_max_7cf53 1 = .ok (.iload_n 1, 1) := by decide +kernel
theorem dJ9_max_7cf53_2 : decode cJ9_max_7cf53 2 = .ok (.if_icmp .lt 7, 3) := by decide +kernel
theorem dJ9_max_7cf53_5 : decode cJ9_max_7cf53 5 = .ok (.iload_n 0, 1) := by decide +kernel
theorem dJ9_max_7cf53_6 : decode cJ9_max_7cf53 6 = .ok (.goto 4, 3) := by decide +kernel
theorem dJ9_max_7cf53_9 : decode cJ9_max_7cf53 9 = .ok (.iload_n 1, 1) := by decide +kernel
theorem dJ9_max_7cf53_10 : decode cJ9_max_7cf53 10 = .ok (.ireturn, 1) := by decide +kernel
end
section
/-! limbs of six digits, decimal digits: pure rows -/
def nd_d (n j : Nat) : Nat := n / 1000000 ^ j % 1000000
theorem nd_q (n j : Nat) : n / 1000000 ^ (j + 1) = n / 1000000 ^ j / 1000000 := by
  rw [Nat.pow_succ, Nat.div_div_eq_div_mul]
theorem nd_q0 (n : Nat) : n / 1000000 ^ 0 = n := by simp
theorem nd_lt (n j : Nat) : nd_d n j < 1000000 := Nat.mod_lt _ (by decide)
/-- how many limbs -/
def nd_s (n : Nat) : Nat := if h : n = 0 then 0 else nd_s (n / 1000000) + 1
termination_by n
decreasing_by omega
theorem nd_s0 : nd_s 0 = 0 := by rw [nd_s]; simp
theorem nd_sp {n : Nat} (h : n ≠ 0) : nd_s n = nd_s (n / 1000000) + 1 := by rw [nd_s]; simp [h]
theorem nd_s_lt (n : Nat) : n < 1000000 ^ nd_s n := by
  induction n using Nat.strongRecOn with
  | ind n ih =>
    by_cases h : n = 0
    · subst h; rw [nd_s0]; decide
    · rw [nd_sp h, Nat.pow_succ]
      have := ih (n / 1000000) (by omega)
      omega
theorem nd_s_le (k : Nat) : ∀ n : Nat, n < 1000000 ^ k → nd_s n ≤ k := by
  induction k with
  | zero => intro n h; have : n = 0 := by simpa using h
            subst this; rw [nd_s0]; exact Nat.le_refl _
  | succ k ih =>
    intro n h
    by_cases h0 : n = 0
    · subst h0; rw [nd_s0]; omega
    · rw [nd_sp h0]
      rw [Nat.pow_succ] at h
      have := ih (n / 1000000) (by omega)
      omega
theorem nd_s_iff {n k : Nat} : nd_s n ≤ k ↔ n < 1000000 ^ k :=
  ⟨fun h => Nat.lt_of_lt_of_le (nd_s_lt n) (Nat.pow_le_pow_right (by decide) h), nd_s_le k n⟩
theorem nd_s_gt {n k : Nat} : k < nd_s n ↔ 1000000 ^ k ≤ n := by
  have := @nd_s_iff n k
  omega
theorem nd_s_z {n : Nat} : nd_s n = 0 ↔ n = 0 := by
  constructor
  · intro h
    have := nd_s_lt n
    rw [h] at this
    simpa using this
  · intro h; subst h; exact nd_s0
theorem nd_qz {n k j : Nat} (h : n < 1000000 ^ k) (hj : k ≤ j) : n / 1000000 ^ j = 0 :=
  Nat.div_eq_of_lt (Nat.lt_of_lt_of_le h (Nat.pow_le_pow_right (by decide) hj))
theorem nd_dz {n k j : Nat} (h : n < 1000000 ^ k) (hj : k ≤ j) : nd_d n j = 0 := by
  rw [nd_d, nd_qz h hj]
theorem nd_d0 (j : Nat) : nd_d 0 j = 0 := by simp [nd_d]
/-- the highest limb is not 0 -/
theorem nd_top {n k : Nat} (h : nd_s n = k + 1) : nd_d n k ≠ 0 := by
  have h1 : 1000000 ^ k ≤ n := nd_s_gt.mp (by omega)
  have h2 : n < 1000000 ^ (k + 1) := by rw [← h]; exact nd_s_lt n
  have h3 : n / 1000000 ^ k < 1000000 := by
    rw [Nat.div_lt_iff_lt_mul (Nat.pow_pos (by decide)), Nat.mul_comm, ← Nat.pow_succ]; exact h2
  have h4 : 1 ≤ n / 1000000 ^ k := by
    rw [Nat.le_div_iff_mul_le (Nat.pow_pos (by decide))]; omega
  rw [nd_d, Nat.mod_eq_of_lt h3]
  omega
/-- a highest limb that is 0: the size is less -/
theorem nd_shrink {n k : Nat} (h : n < 1000000 ^ (k + 1)) (h0 : nd_d n k = 0) : n < 1000000 ^ k := by
  have h3 : n / 1000000 ^ k < 1000000 := by
    rw [Nat.div_lt_iff_lt_mul (Nat.pow_pos (by decide)), Nat.mul_comm, ← Nat.pow_succ]; exact h
  rw [nd_d, Nat.mod_eq_of_lt h3] at h0
  rcases Nat.lt_or_ge n (1000000 ^ k) with q | q
  · exact q
  · have : 1 ≤ n / 1000000 ^ k := by
      rw [Nat.le_div_iff_mul_le (Nat.pow_pos (by decide))]; omega
    omega
theorem nd_size {n k : Nat} (h : n < 1000000 ^ (k + 1)) (h0 : nd_d n k ≠ 0) : nd_s n = k + 1 := by
  have h1 := nd_s_le _ n h
  have h2 : k < nd_s n := by
    rw [nd_s_gt]
    rcases Nat.lt_or_ge n (1000000 ^ k) with q | q
    · exact absurd (nd_dz q (Nat.le_refl k)) h0
    · exact q
  omega
/-- numbers with the same limbs are the same -/
theorem nd_ext (k : Nat) : ∀ a b : Nat, a < 1000000 ^ k → b < 1000000 ^ k → (∀ j, j < k → nd_d a j = nd_d b j) → a = b := by
  induction k with
  | zero => intro a b ha hb _; simp at ha hb; omega
  | succ k ih =>
    intro a b ha hb h
    have h0 := h 0 (by omega)
    simp [nd_d] at h0
    rw [Nat.pow_succ] at ha hb
    have := ih (a / 1000000) (b / 1000000) (by omega) (by omega) (fun j hj => by
      have := h (j + 1) (by omega)
      rw [nd_d, nd_d, Nat.pow_succ, Nat.mul_comm, ← Nat.div_div_eq_div_mul, ← Nat.div_div_eq_div_mul] at this
      exact this)
    omega
/-- the sum of limbs -/
def nd_v (f : Nat → Nat) : Nat → Nat
  | 0 => 0
  | k + 1 => nd_v f k + f k * 1000000 ^ k
theorem nd_v_congr {f g : Nat → Nat} {k : Nat} (h : ∀ j, j < k → f j = g j) : nd_v f k = nd_v g k := by
  induction k with
  | zero => rfl
  | succ k ih => rw [nd_v, nd_v, ih (fun j hj => h j (by omega)), h k (by omega)]
theorem nd_v_lt {f : Nat → Nat} {k : Nat} (h : ∀ j, j < k → f j < 1000000) : nd_v f k < 1000000 ^ k := by
  induction k with
  | zero => simp [nd_v]
  | succ k ih =>
    rw [nd_v, Nat.pow_succ]
    have h1 := ih (fun j hj => h j (by omega))
    have h2 := Nat.mul_le_mul_right (1000000 ^ k) (show f k ≤ 999999 by have := h k (by omega); omega)
    omega
theorem nd_v_d {f : Nat → Nat} {k : Nat} (h : ∀ j, j < k → f j < 1000000) : ∀ j, j < k → nd_d (nd_v f k) j = f j := by
  induction k with
  | zero => intro j hj; omega
  | succ k ih =>
    intro j hj
    have h1 := nd_v_lt (fun j hj => h j (Nat.lt_succ_of_lt hj)) (k := k)
    rw [nd_v]
    rcases Nat.lt_or_ge j k with q | q
    · rw [← ih (fun j hj => h j (by omega)) j q, nd_d, nd_d]
      obtain ⟨d, rfl⟩ : ∃ d, k = j + (d + 1) := ⟨k - j - 1, by omega⟩
      rw [show f (j + (d + 1)) * 1000000 ^ (j + (d + 1)) = 1000000 ^ j * (1000000 * (f (j + (d + 1)) * 1000000 ^ d)) by
        rw [Nat.pow_add, Nat.pow_succ]; simp only [Nat.mul_comm, Nat.mul_left_comm]]
      rw [Nat.add_mul_div_left _ _ (Nat.pow_pos (by decide))]
      omega
    · have : j = k := by omega
      subst this
      rw [nd_d, Nat.mul_comm, Nat.add_mul_div_left _ _ (Nat.pow_pos (by decide)), Nat.div_eq_of_lt h1, Nat.zero_add, Nat.mod_eq_of_lt (h j (by omega))]
theorem nd_v_of (n k : Nat) : nd_v (nd_d n) k = n % 1000000 ^ k := by
  induction k with
  | zero => simp [nd_v, Nat.mod_one]
  | succ k ih =>
    rw [nd_v, ih, nd_d, Nat.pow_succ, Nat.mod_mul, Nat.mul_comm]
theorem nd_v_self {n k : Nat} (h : n < 1000000 ^ k) : nd_v (nd_d n) k = n := by rw [nd_v_of, Nat.mod_eq_of_lt h]
/-- decimal digits: how many (of 0: 1) -/
def nd_p (n : Nat) : Nat := if h : n < 10 then 1 else nd_p (n / 10) + 1
termination_by n
decreasing_by omega
theorem nd_p1 {n : Nat} (h : n < 10) : nd_p n = 1 := by rw [nd_p]; simp [h]
theorem nd_pp {n : Nat} (h : ¬ n < 10) : nd_p n = nd_p (n / 10) + 1 := by rw [nd_p]; simp [h]
theorem nd_p_pos (n : Nat) : 1 ≤ nd_p n := by
  by_cases h : n < 10
  · rw [nd_p1 h]; exact Nat.le_refl _
  · rw [nd_pp h]; omega
theorem nd_p_iff (k : Nat) : ∀ n : Nat, nd_p n ≤ k + 1 ↔ n < 10 ^ (k + 1) := by
  induction k with
  | zero =>
    intro n
    by_cases h : n < 10
    · rw [nd_p1 h]; simp [h]
    · rw [nd_pp h]; have := nd_p_pos (n / 10); simp; omega
  | succ k ih =>
    intro n
    by_cases h : n < 10
    · rw [nd_p1 h]
      have : 10 ^ 1 ≤ 10 ^ (k + 1 + 1) := Nat.pow_le_pow_right (by decide) (by omega)
      omega
    · rw [nd_pp h, Nat.pow_succ]
      have := ih (n / 10)
      omega
theorem nd_p_le {n k : Nat} (h0 : 1 ≤ k) : nd_p n ≤ k ↔ n < 10 ^ k := by
  obtain ⟨j, rfl⟩ : ∃ j, k = j + 1 := ⟨k - 1, by omega⟩
  exact nd_p_iff j n
theorem nd_p_lt (n : Nat) : n < 10 ^ nd_p n := (nd_p_le (nd_p_pos n)).mp (Nat.le_refl _)
theorem nd_p_ge {n k : Nat} (h0 : 1 ≤ k) : k < nd_p n ↔ 10 ^ k ≤ n := by
  have := @nd_p_le n k h0
  omega
/-- a digit out of its limb -/
theorem nd_fig (n q r : Nat) (hr : r < 6) : nd_d n q / 10 ^ r % 10 = n / 10 ^ (6 * q + r) % 10 := by
  have e : (1000000 : Nat) ^ q = 10 ^ (6 * q) := by rw [Nat.pow_mul]
  rw [nd_d, e, Nat.pow_add, ← Nat.div_div_eq_div_mul]
  generalize n / 10 ^ (6 * q) = x
  rcases (show r = 0 ∨ r = 1 ∨ r = 2 ∨ r = 3 ∨ r = 4 ∨ r = 5 by omega) with rfl | rfl | rfl | rfl | rfl | rfl <;> simp <;> omega
theorem nd_e6 (q : Nat) : (1000000 : Nat) ^ q = 10 ^ (6 * q) := by rw [Nat.pow_mul]
end
section
/-! worlds by names: cell k of the world lies at ad k and holds G k -/
def wm_W (N : Nat) (ad : Nat → Nat) (g : Nat → va_E) : va_W := (List.range N).map fun k => (ad k, g k)
theorem wm_at {N : Nat} {ad : Nat → Nat} {g : Nat → va_E} {k : Nat} {e : va_E} (h : k < N) (he : g k = e) : (wm_W N ad g)[k]? = some (ad k, e) := by
  simp [wm_W, List.getElem?_map, List.getElem?_range h, he]
theorem wm_inv {N : Nat} {ad : Nat → Nat} {g : Nat → va_E} {i : Nat} {p : Nat × va_E} (h : (wm_W N ad g)[i]? = some p) : i < N ∧ p = (ad i, g i) := by
  have hi : i < N := by
    have h1 := (List.getElem?_eq_some_iff.mp h).1
    simpa [wm_W] using h1
  refine ⟨hi, ?_⟩
  rw [wm_at hi rfl] at h
  exact (Option.some.inj h).symm
theorem wm_set (N : Nat) (ad : Nat → Nat) (g : Nat → va_E) (k : Nat) (e : va_E) : (wm_W N ad g).set k (ad k, e) = wm_W N ad (va_up g k e) := by
  apply List.ext_getElem (by simp [wm_W])
  intro i h1 h2
  simp only [wm_W, List.getElem_set, List.getElem_map, List.getElem_range, va_up]
  by_cases h : k = i
  · subst h; simp
  · rw [if_neg h, if_neg (fun q => h q.symm)]
theorem wm_D {A : Nat → Prop} {N : Nat} {ad : Nat → Nat} {g g' : Nat → va_E} (h : va_D A (wm_W N ad g)) : va_D A (wm_W N ad g') := by
  refine ⟨fun i j p q hi hj hpq => ?_, fun k q hq => ?_⟩
  · obtain ⟨h1, rfl⟩ := wm_inv hi
    obtain ⟨h2, rfl⟩ := wm_inv hj
    exact h.1 i j (ad i, g i) (ad j, g j) (wm_at h1 rfl) (wm_at h2 rfl) hpq
  · obtain ⟨h1, rfl⟩ := wm_inv hq
    exact h.2 k (ad k, g k) (wm_at h1 rfl)
theorem wm_P {D : va_G} {N : Nat} {ad : Nat → Nat} {g g' : Nat → va_E} {H : Heap} (h : va_P D vwCl (wm_W N ad g) H) (he : ∀ k, k < N → va_at D vwCl (ad k, g k) H → va_at D vwCl (ad k, g' k) H) : va_P D vwCl (wm_W N ad g') H := by
  intro k q hq
  obtain ⟨h1, rfl⟩ := wm_inv hq
  exact he k h1 (h k _ (wm_at h1 rfl))
/-- the classes of the arrays -/
def ty_s (cA : Nat → ClassId) : List (ClassId × FieldType) := [(cA 0, .long), (cA 1, .object "DecimalRegisters$Decimal"), (cA 2, .char), (cA 3, .int), (cA 4, .object "DecimalRegistersModel$Row")]
/-- the static row of tens -/
def st_T (tT : Nat) (A : Nat → Prop) (U : State) (H : Heap) : Prop := va_Z "DecimalRegisters$Natural" "TENS" "[J" (.ref tT) A U H ∧ va_T .long tT 6 (fun j => .long (lN (10 ^ j))) A U H
theorem st_T.moved {tT : Nat} {A : Nat → Prop} {u U : State} {H : Heap} (hvm : u.vm.Alike U.vm) (h : st_T tT A u H) : st_T tT A U H := ⟨va_Z.moved hvm h.1, va_T.moved hvm h.2⟩
theorem st_T.kept {tT : Nat} {A : Nat → Prop} {U : State} {H H1 : Heap} (h : st_T tT A U H) (hq : ∀ a : Nat, a < H.size → ¬ A a → H1[a]? = H[a]?) : st_T tT A U H1 := ⟨va_Z.kept h.1 hq, va_T.kept h.2 hq⟩
theorem st_T.narrow {tT : Nat} {A B : Nat → Prop} {U : State} {H : Heap} (h : st_T tT A U H) (hAB : ∀ q, B q → A q) : st_T tT B U H := ⟨va_Z.narrow h.1 hAB, va_T.narrow h.2 hAB⟩
/-- what a contract's start holds, and its end -/
def wd_B (D : va_G) (cA : Nat → ClassId) (tT : Nat) (A : Nat → Prop) (N : Nat) (ad : Nat → Nat) (sz : Nat) (g : Nat → va_E) (U : State) : Prop := U.heap.size = sz ∧ va_P D vwCl (wm_W N ad g) U.heap ∧ va_K D vwCl (ty_s cA) U ∧ va_D A (wm_W N ad g) ∧ st_T tT A U U.heap
def wd_E (D : va_G) (cA : Nat → ClassId) (A : Nat → Prop) (N : Nat) (ad : Nat → Nat) (u : Nat → va_E) (t : State) : Prop := va_P D vwCl (wm_W N ad u) t.heap ∧ va_K D vwCl (ty_s cA) t ∧ va_D A (wm_W N ad u)
theorem wd_blind {D : va_G} {cA : Nat → ClassId} {tT : Nat} {A : Nat → Prop} {N : Nat} {ad : Nat → Nat} {sz : Nat} {g : Nat → va_E} {av : List Value} : FrameBlind (va_Pc av (wd_B D cA tT A N ad sz g)) := fun a U g mk q => by
  obtain ⟨q0, q1, qP, qK, qD, qT⟩ := q
  exact ⟨q0, q1, qP, va_K.moved (u := U) (U := U.calling g mk a) (Vm.Alike.refl U.vm) qK, qD, st_T.moved (u := U) (U := U.calling g mk a) (Vm.Alike.refl U.vm) qT⟩
theorem wd_at {D : va_G} {cA : Nat → ClassId} {tT : Nat} {A : Nat → Prop} {N : Nat} {ad : Nat → Nat} {g : Nat → va_E} {s : State} {H : Heap} {locs : List Loc} (hP : va_P D vwCl (wm_W N ad g) H) (hK : va_K D vwCl (ty_s cA) s) (hD : va_D A (wm_W N ad g)) (hT : st_T tT A s s.heap) (hS : va_S A s.heap H locs) (U : State) (hU : U.heap = H) (hW : s.WarmedH U.vm) : wd_B D cA tT A N ad H.size g U :=
  ⟨by rw [hU], by rw [hU]; exact hP, va_K.moved hW.alike hK, hD, by rw [hU]; exact (hT.kept hS.2.1).moved hW.alike⟩
theorem wd_preV {D : va_G} {cA : Nat → ClassId} {tT : Nat} {A : Nat → Prop} {N : Nat} {ad : Nat → Nat} {g : Nat → va_E} {s : State} {H : Heap} {locs : List Loc} {As : List Value} {ci k : Nat} {fs : List Value} {q : vw_C} (hP : va_P D vwCl (wm_W N ad g) H) (hK : va_K D vwCl (ty_s cA) s) (hD : va_D A (wm_W N ad g)) (hT : st_T tT A s s.heap) (hS : va_S A s.heap H locs) (hk : k < N) (he : g k = .inr (ci, fs)) (hc : vwCl[ci]? = some q) : PreV s H q.1 (ad k) (va_Pc (.ref (ad k) :: As) (wd_B D cA tT A N ad H.size g)) As :=
  ⟨wd_blind, va_recv hK hP hc (wm_at hk he), fun U hU hW => ⟨rfl, wd_at hP hK hD hT hS U hU hW⟩⟩
theorem wd_preS {D : va_G} {cA : Nat → ClassId} {tT : Nat} {A : Nat → Prop} {N : Nat} {ad : Nat → Nat} {g : Nat → va_E} {s : State} {H : Heap} {locs : List Loc} {As : List Value} (hP : va_P D vwCl (wm_W N ad g) H) (hK : va_K D vwCl (ty_s cA) s) (hD : va_D A (wm_W N ad g)) (hT : st_T tT A s s.heap) (hS : va_S A s.heap H locs) : PreS s H (va_Pc As (wd_B D cA tT A N ad H.size g)) As :=
  ⟨wd_blind, fun U hU hW => ⟨rfl, wd_at hP hK hD hT hS U hU hW⟩⟩
theorem wd_back {D : va_G} {cA : Nat → ClassId} {A : Nat → Prop} {N : Nat} {ad : Nat → Nat} {u : Nat → va_E} {t : State} {H1 : Heap} (ht : t.heap = H1) (h : wd_E D cA A N ad u t) : va_P D vwCl (wm_W N ad u) H1 ∧ va_D A (wm_W N ad u) := ⟨by rw [← ht]; exact h.1, h.2.2⟩
theorem wd_end {D : va_G} {cA : Nat → ClassId} {A : Nat → Prop} {N : Nat} {ad : Nat → Nat} {u : Nat → va_E} {s t : State} {H : Heap} (hP : va_P D vwCl (wm_W N ad u) H) (hK : va_K D vwCl (ty_s cA) s) (hD : va_D A (wm_W N ad u)) (ht : t.heap = H) (hW : s.WarmedH t.vm) : wd_E D cA A N ad u t := ⟨by rw [ht]; exact hP, va_K.moved hW.alike hK, hD⟩
theorem id_1 {A : Nat → Prop} (q : Nat) (h : A q) : A q := h
theorem id_2 {A : Nat → Prop} {n : Nat} (q : Nat) (_ : q < n) (h : A q) : A q := h

section WD
variable {p : Program} {l : Launch} {e : Env} {R : Room} {s : State} {m : MethodId} {args : Array Value} {below : List Frame} {meth : Method} {c : Code} {H H0 : Heap} {locs : List Loc} {cells slots : Nat} {Q : State → Prop} {cc : ByteArray} {pc : Nat} {ls : Array Slot} {rest : List Value} {Ts : List Cond} {own : String} {index : Nat} {D : va_G} {cA : Nat → ClassId} {tT : Nat} {A : Nat → Prop} {N : Nat} {ad : Nat → Nat} {G : Nat → va_E}
theorem rg_0_digits (hx : p.tables.exec = Jvm.exec) (hb : c.code = cc) (hts : ∀ w ∈ Ts, w.before args s = true) (hin : ∀ w ∈ wsX00, w ∈ Ts) (hown : s.vm.findClass own = some m.cls) (hK : va_K D vwCl (ty_s cA) s) (hP : va_P D vwCl (wm_W N ad G) H) (k : Nat) (hk : k < N) {v0 v1 v2 : Value} (hg : G k = .inr (0, [v0, v1, v2])) (hlink : (Cond.fieldLink own index "DecimalRegisters$Decimal" "digits" "LDecimalRegisters$Natural;").before args s = true) (hdg : decode cc pc = .ok (.getfield index, 3)) (kk : W p l e R s m args below meth c H locs cells slots Q (F0 m (pc + 3) ls (v0 :: rest))) : W p l e R s m args below meth c H locs cells slots Q (F0 m pc ls (.ref (ad k) :: rest)) :=
  va_get (ci := 0) (C := RX0) (T := TX0) (N := 3) hx hb hts hin hown hK hP k (wm_at hk hg) rfl 0 (by decide) hlink (fun _ h => h) rfl hdg kk
theorem rg_0_minus (hx : p.tables.exec = Jvm.exec) (hb : c.code = cc) (hts : ∀ w ∈ Ts, w.before args s = true) (hin : ∀ w ∈ wsX00, w ∈ Ts) (hown : s.vm.findClass own = some m.cls) (hK : va_K D vwCl (ty_s cA) s) (hP : va_P D vwCl (wm_W N ad G) H) (k : Nat) (hk : k < N) {v0 v1 v2 : Value} (hg : G k = .inr (0, [v0, v1, v2])) (hlink : (Cond.fieldLink own index "DecimalRegisters$Decimal" "minus" "Z").before args s = true) (hdg : decode cc pc = .ok (.getfield index, 3)) (kk : W p l e R s m args below meth c H locs cells slots Q (F0 m (pc + 3) ls (v1 :: rest))) : W p l e R s m args below meth c H locs cells slots Q (F0 m pc ls (.ref (ad k) :: rest)) :=
  va_get (ci := 0) (C := RX0) (T := TX0) (N := 3) hx hb hts hin hown hK hP k (wm_at hk hg) rfl 1 (by decide) hlink (fun _ h => h) rfl hdg kk
theorem rp_0_minus (hx : p.tables.exec = Jvm.exec) (hb : c.code = cc) (hts : ∀ w ∈ Ts, w.before args s = true) (hin : ∀ w ∈ wsX00, w ∈ Ts) (hown : s.vm.findClass own = some m.cls) (hK : va_K D vwCl (ty_s cA) s) (hP : va_P D vwCl (wm_W N ad G) H) (hD : va_D A (wm_W N ad G)) (hS : va_S A H0 H locs) (k : Nat) (hk : k < N) {v0 v1 v2 v : Value} (hg : G k = .inr (0, [v0, v1, v2])) (hlink : (Cond.fieldLink own index "DecimalRegisters$Decimal" "minus" "Z").before args s = true) (hn : narrow .boolean v = v) (hf : fits .boolean v = true) (hdg : decode cc pc = .ok (.putfield index, 3)) (kk : ∀ (H1 : Heap) (locs1 : List Loc), va_P D vwCl (wm_W N ad (va_up G k (.inr (0, [v0, v, v2])))) H1 → va_D A (wm_W N ad (va_up G k (.inr (0, [v0, v, v2])))) → va_S A H0 H1 locs1 → W p l e R s m args below meth c H1 locs1 cells slots Q (F0 m (pc + 3) ls rest)) : W p l e R s m args below meth c H locs cells slots Q (F0 m pc ls (v :: .ref (ad k) :: rest)) :=
  va_put (ci := 0) (C := RX0) (T := TX0) (N := 3) (ty := .boolean) hx hb hts hin tyX0 tyX0_ok nmX0 hown hK hP hD hS k (wm_at hk hg) rfl 1 (by decide) hlink (fun _ h => h) rfl (by decide +kernel) hn hf (by show 1 < 3; decide) hdg (fun H1 locs1 hP hD hS => kk H1 locs1 (by rw [← wm_set]; exact hP) (by rw [← wm_set]; exact hD) hS)
theorem rg_0_scale (hx : p.tables.exec = Jvm.exec) (hb : c.code = cc) (hts : ∀ w ∈ Ts, w.before args s = true) (hin : ∀ w ∈ wsX00, w ∈ Ts) (hown : s.vm.findClass own = some m.cls) (hK : va_K D vwCl (ty_s cA) s) (hP : va_P D vwCl (wm_W N ad G) H) (k : Nat) (hk : k < N) {v0 v1 v2 : Value} (hg : G k = .inr (0, [v0, v1, v2])) (hlink : (Cond.fieldLink own index "DecimalRegisters$Decimal" "scale" "I").before args s = true) (hdg : decode cc pc = .ok (.getfield index, 3)) (kk : W p l e R s m args below meth c H locs cells slots Q (F0 m (pc + 3) ls (v2 :: rest))) : W p l e R s m args below meth c H locs cells slots Q (F0 m pc ls (.ref (ad k) :: rest)) :=
  va_get (ci := 0) (C := RX0) (T := TX0) (N := 3) hx hb hts hin hown hK hP k (wm_at hk hg) rfl 2 (by decide) hlink (fun _ h => h) rfl hdg kk
theorem rp_0_scale (hx : p.tables.exec = Jvm.exec) (hb : c.code = cc) (hts : ∀ w ∈ Ts, w.before args s = true) (hin : ∀ w ∈ wsX00, w ∈ Ts) (hown : s.vm.findClass own = some m.cls) (hK : va_K D vwCl (ty_s cA) s) (hP : va_P D vwCl (wm_W N ad G) H) (hD : va_D A (wm_W N ad G)) (hS : va_S A H0 H locs) (k : Nat) (hk : k < N) {v0 v1 v2 v : Value} (hg : G k = .inr (0, [v0, v1, v2])) (hlink : (Cond.fieldLink own index "DecimalRegisters$Decimal" "scale" "I").before args s = true) (hn : narrow .int v = v) (hf : fits .int v = true) (hdg : decode cc pc = .ok (.putfield index, 3)) (kk : ∀ (H1 : Heap) (locs1 : List Loc), va_P D vwCl (wm_W N ad (va_up G k (.inr (0, [v0, v1, v])))) H1 → va_D A (wm_W N ad (va_up G k (.inr (0, [v0, v1, v])))) → va_S A H0 H1 locs1 → W p l e R s m args below meth c H1 locs1 cells slots Q (F0 m (pc + 3) ls rest)) : W p l e R s m args below meth c H locs cells slots Q (F0 m pc ls (v :: .ref (ad k) :: rest)) :=
  va_put (ci := 0) (C := RX0) (T := TX0) (N := 3) (ty := .int) hx hb hts hin tyX0 tyX0_ok nmX0 hown hK hP hD hS k (wm_at hk hg) rfl 2 (by decide) hlink (fun _ h => h) rfl (by decide +kernel) hn hf (by show 2 < 3; decide) hdg (fun H1 locs1 hP hD hS => kk H1 locs1 (by rw [← wm_set]; exact hP) (by rw [← wm_set]; exact hD) hS)
theorem rg_1_limbs (hx : p.tables.exec = Jvm.exec) (hb : c.code = cc) (hts : ∀ w ∈ Ts, w.before args s = true) (hin : ∀ w ∈ wsX10, w ∈ Ts) (hown : s.vm.findClass own = some m.cls) (hK : va_K D vwCl (ty_s cA) s) (hP : va_P D vwCl (wm_W N ad G) H) (k : Nat) (hk : k < N) {v0 v1 : Value} (hg : G k = .inr (1, [v0, v1])) (hlink : (Cond.fieldLink own index "DecimalRegisters$Natural" "limbs" "[J").before args s = true) (hdg : decode cc pc = .ok (.getfield index, 3)) (kk : W p l e R s m args below meth c H locs cells slots Q (F0 m (pc + 3) ls (v0 :: rest))) : W p l e R s m args below meth c H locs cells slots Q (F0 m pc ls (.ref (ad k) :: rest)) :=
  va_get (ci := 1) (C := RX1) (T := TX1) (N := 2) hx hb hts hin hown hK hP k (wm_at hk hg) rfl 0 (by decide) hlink (fun _ h => h) rfl hdg kk
theorem rg_1_size (hx : p.tables.exec = Jvm.exec) (hb : c.code = cc) (hts : ∀ w ∈ Ts, w.before args s = true) (hin : ∀ w ∈ wsX10, w ∈ Ts) (hown : s.vm.findClass own = some m.cls) (hK : va_K D vwCl (ty_s cA) s) (hP : va_P D vwCl (wm_W N ad G) H) (k : Nat) (hk : k < N) {v0 v1 : Value} (hg : G k = .inr (1, [v0, v1])) (hlink : (Cond.fieldLink own index "DecimalRegisters$Natural" "size" "I").before args s = true) (hdg : decode cc pc = .ok (.getfield index, 3)) (kk : W p l e R s m args below meth c H locs cells slots Q (F0 m (pc + 3) ls (v1 :: rest))) : W p l e R s m args below meth c H locs cells slots Q (F0 m pc ls (.ref (ad k) :: rest)) :=
  va_get (ci := 1) (C := RX1) (T := TX1) (N := 2) hx hb hts hin hown hK hP k (wm_at hk hg) rfl 1 (by decide) hlink (fun _ h => h) rfl hdg kk
theorem rp_1_size (hx : p.tables.exec = Jvm.exec) (hb : c.code = cc) (hts : ∀ w ∈ Ts, w.before args s = true) (hin : ∀ w ∈ wsX10, w ∈ Ts) (hown : s.vm.findClass own = some m.cls) (hK : va_K D vwCl (ty_s cA) s) (hP : va_P D vwCl (wm_W N ad G) H) (hD : va_D A (wm_W N ad G)) (hS : va_S A H0 H locs) (k : Nat) (hk : k < N) {v0 v1 v : Value} (hg : G k = .inr (1, [v0, v1])) (hlink : (Cond.fieldLink own index "DecimalRegisters$Natural" "size" "I").before args s = true) (hn : narrow .int v = v) (hf : fits .int v = true) (hdg : decode cc pc = .ok (.putfield index, 3)) (kk : ∀ (H1 : Heap) (locs1 : List Loc), va_P D vwCl (wm_W N ad (va_up G k (.inr (1, [v0, v])))) H1 → va_D A (wm_W N ad (va_up G k (.inr (1, [v0, v])))) → va_S A H0 H1 locs1 → W p l e R s m args below meth c H1 locs1 cells slots Q (F0 m (pc + 3) ls rest)) : W p l e R s m args below meth c H locs cells slots Q (F0 m pc ls (v :: .ref (ad k) :: rest)) :=
  va_put (ci := 1) (C := RX1) (T := TX1) (N := 2) (ty := .int) hx hb hts hin tyX1 tyX1_ok nmX1 hown hK hP hD hS k (wm_at hk hg) rfl 1 (by decide) hlink (fun _ h => h) rfl (by decide +kernel) hn hf (by show 1 < 2; decide) hdg (fun H1 locs1 hP hD hS => kk H1 locs1 (by rw [← wm_set]; exact hP) (by rw [← wm_set]; exact hD) hS)
theorem rg_2_registers (hx : p.tables.exec = Jvm.exec) (hb : c.code = cc) (hts : ∀ w ∈ Ts, w.before args s = true) (hin : ∀ w ∈ wsX20, w ∈ Ts) (hown : s.vm.findClass own = some m.cls) (hK : va_K D vwCl (ty_s cA) s) (hP : va_P D vwCl (wm_W N ad G) H) (k : Nat) (hk : k < N) {v0 v1 v2 v3 v4 v5 v6 : Value} (hg : G k = .inr (2, [v0, v1, v2, v3, v4, v5, v6])) (hlink : (Cond.fieldLink own index "DecimalRegisters" "registers" "[LDecimalRegisters$Decimal;").before args s = true) (hdg : decode cc pc = .ok (.getfield index, 3)) (kk : W p l e R s m args below meth c H locs cells slots Q (F0 m (pc + 3) ls (v0 :: rest))) : W p l e R s m args below meth c H locs cells slots Q (F0 m pc ls (.ref (ad k) :: rest)) :=
  va_get (ci := 2) (C := RX2) (T := TX2) (N := 7) hx hb hts hin hown hK hP k (wm_at hk hg) rfl 0 (by decide) hlink (fun _ h => h) rfl hdg kk
theorem rg_2_result (hx : p.tables.exec = Jvm.exec) (hb : c.code = cc) (hts : ∀ w ∈ Ts, w.before args s = true) (hin : ∀ w ∈ wsX20, w ∈ Ts) (hown : s.vm.findClass own = some m.cls) (hK : va_K D vwCl (ty_s cA) s) (hP : va_P D vwCl (wm_W N ad G) H) (k : Nat) (hk : k < N) {v0 v1 v2 v3 v4 v5 v6 : Value} (hg : G k = .inr (2, [v0, v1, v2, v3, v4, v5, v6])) (hlink : (Cond.fieldLink own index "DecimalRegisters" "result" "LDecimalRegisters$Decimal;").before args s = true) (hdg : decode cc pc = .ok (.getfield index, 3)) (kk : W p l e R s m args below meth c H locs cells slots Q (F0 m (pc + 3) ls (v1 :: rest))) : W p l e R s m args below meth c H locs cells slots Q (F0 m pc ls (.ref (ad k) :: rest)) :=
  va_get (ci := 2) (C := RX2) (T := TX2) (N := 7) hx hb hts hin hown hK hP k (wm_at hk hg) rfl 1 (by decide) hlink (fun _ h => h) rfl hdg kk
theorem rg_2_one (hx : p.tables.exec = Jvm.exec) (hb : c.code = cc) (hts : ∀ w ∈ Ts, w.before args s = true) (hin : ∀ w ∈ wsX20, w ∈ Ts) (hown : s.vm.findClass own = some m.cls) (hK : va_K D vwCl (ty_s cA) s) (hP : va_P D vwCl (wm_W N ad G) H) (k : Nat) (hk : k < N) {v0 v1 v2 v3 v4 v5 v6 : Value} (hg : G k = .inr (2, [v0, v1, v2, v3, v4, v5, v6])) (hlink : (Cond.fieldLink own index "DecimalRegisters" "one" "LDecimalRegisters$Decimal;").before args s = true) (hdg : decode cc pc = .ok (.getfield index, 3)) (kk : W p l e R s m args below meth c H locs cells slots Q (F0 m (pc + 3) ls (v2 :: rest))) : W p l e R s m args below meth c H locs cells slots Q (F0 m pc ls (.ref (ad k) :: rest)) :=
  va_get (ci := 2) (C := RX2) (T := TX2) (N := 7) hx hb hts hin hown hK hP k (wm_at hk hg) rfl 2 (by decide) hlink (fun _ h => h) rfl hdg kk
theorem rg_2_top (hx : p.tables.exec = Jvm.exec) (hb : c.code = cc) (hts : ∀ w ∈ Ts, w.before args s = true) (hin : ∀ w ∈ wsX20, w ∈ Ts) (hown : s.vm.findClass own = some m.cls) (hK : va_K D vwCl (ty_s cA) s) (hP : va_P D vwCl (wm_W N ad G) H) (k : Nat) (hk : k < N) {v0 v1 v2 v3 v4 v5 v6 : Value} (hg : G k = .inr (2, [v0, v1, v2, v3, v4, v5, v6])) (hlink : (Cond.fieldLink own index "DecimalRegisters" "top" "LDecimalRegisters$Natural;").before args s = true) (hdg : decode cc pc = .ok (.getfield index, 3)) (kk : W p l e R s m args below meth c H locs cells slots Q (F0 m (pc + 3) ls (v3 :: rest))) : W p l e R s m args below meth c H locs cells slots Q (F0 m pc ls (.ref (ad k) :: rest)) :=
  va_get (ci := 2) (C := RX2) (T := TX2) (N := 7) hx hb hts hin hown hK hP k (wm_at hk hg) rfl 3 (by decide) hlink (fun _ h => h) rfl hdg kk
theorem rg_2_bottom (hx : p.tables.exec = Jvm.exec) (hb : c.code = cc) (hts : ∀ w ∈ Ts, w.before args s = true) (hin : ∀ w ∈ wsX20, w ∈ Ts) (hown : s.vm.findClass own = some m.cls) (hK : va_K D vwCl (ty_s cA) s) (hP : va_P D vwCl (wm_W N ad G) H) (k : Nat) (hk : k < N) {v0 v1 v2 v3 v4 v5 v6 : Value} (hg : G k = .inr (2, [v0, v1, v2, v3, v4, v5, v6])) (hlink : (Cond.fieldLink own index "DecimalRegisters" "bottom" "LDecimalRegisters$Natural;").before args s = true) (hdg : decode cc pc = .ok (.getfield index, 3)) (kk : W p l e R s m args below meth c H locs cells slots Q (F0 m (pc + 3) ls (v4 :: rest))) : W p l e R s m args below meth c H locs cells slots Q (F0 m pc ls (.ref (ad k) :: rest)) :=
  va_get (ci := 2) (C := RX2) (T := TX2) (N := 7) hx hb hts hin hown hK hP k (wm_at hk hg) rfl 4 (by decide) hlink (fun _ h => h) rfl hdg kk
theorem rg_2_text (hx : p.tables.exec = Jvm.exec) (hb : c.code = cc) (hts : ∀ w ∈ Ts, w.before args s = true) (hin : ∀ w ∈ wsX20, w ∈ Ts) (hown : s.vm.findClass own = some m.cls) (hK : va_K D vwCl (ty_s cA) s) (hP : va_P D vwCl (wm_W N ad G) H) (k : Nat) (hk : k < N) {v0 v1 v2 v3 v4 v5 v6 : Value} (hg : G k = .inr (2, [v0, v1, v2, v3, v4, v5, v6])) (hlink : (Cond.fieldLink own index "DecimalRegisters" "text" "[C").before args s = true) (hdg : decode cc pc = .ok (.getfield index, 3)) (kk : W p l e R s m args below meth c H locs cells slots Q (F0 m (pc + 3) ls (v5 :: rest))) : W p l e R s m args below meth c H locs cells slots Q (F0 m pc ls (.ref (ad k) :: rest)) :=
  va_get (ci := 2) (C := RX2) (T := TX2) (N := 7) hx hb hts hin hown hK hP k (wm_at hk hg) rfl 5 (by decide) hlink (fun _ h => h) rfl hdg kk
theorem rg_2_textLength (hx : p.tables.exec = Jvm.exec) (hb : c.code = cc) (hts : ∀ w ∈ Ts, w.before args s = true) (hin : ∀ w ∈ wsX20, w ∈ Ts) (hown : s.vm.findClass own = some m.cls) (hK : va_K D vwCl (ty_s cA) s) (hP : va_P D vwCl (wm_W N ad G) H) (k : Nat) (hk : k < N) {v0 v1 v2 v3 v4 v5 v6 : Value} (hg : G k = .inr (2, [v0, v1, v2, v3, v4, v5, v6])) (hlink : (Cond.fieldLink own index "DecimalRegisters" "textLength" "I").before args s = true) (hdg : decode cc pc = .ok (.getfield index, 3)) (kk : W p l e R s m args below meth c H locs cells slots Q (F0 m (pc + 3) ls (v6 :: rest))) : W p l e R s m args below meth c H locs cells slots Q (F0 m pc ls (.ref (ad k) :: rest)) :=
  va_get (ci := 2) (C := RX2) (T := TX2) (N := 7) hx hb hts hin hown hK hP k (wm_at hk hg) rfl 6 (by decide) hlink (fun _ h => h) rfl hdg kk
theorem rp_2_textLength (hx : p.tables.exec = Jvm.exec) (hb : c.code = cc) (hts : ∀ w ∈ Ts, w.before args s = true) (hin : ∀ w ∈ wsX20, w ∈ Ts) (hown : s.vm.findClass own = some m.cls) (hK : va_K D vwCl (ty_s cA) s) (hP : va_P D vwCl (wm_W N ad G) H) (hD : va_D A (wm_W N ad G)) (hS : va_S A H0 H locs) (k : Nat) (hk : k < N) {v0 v1 v2 v3 v4 v5 v6 v : Value} (hg : G k = .inr (2, [v0, v1, v2, v3, v4, v5, v6])) (hlink : (Cond.fieldLink own index "DecimalRegisters" "textLength" "I").before args s = true) (hn : narrow .int v = v) (hf : fits .int v = true) (hdg : decode cc pc = .ok (.putfield index, 3)) (kk : ∀ (H1 : Heap) (locs1 : List Loc), va_P D vwCl (wm_W N ad (va_up G k (.inr (2, [v0, v1, v2, v3, v4, v5, v])))) H1 → va_D A (wm_W N ad (va_up G k (.inr (2, [v0, v1, v2, v3, v4, v5, v])))) → va_S A H0 H1 locs1 → W p l e R s m args below meth c H1 locs1 cells slots Q (F0 m (pc + 3) ls rest)) : W p l e R s m args below meth c H locs cells slots Q (F0 m pc ls (v :: .ref (ad k) :: rest)) :=
  va_put (ci := 2) (C := RX2) (T := TX2) (N := 7) (ty := .int) hx hb hts hin tyX2 tyX2_ok nmX2 hown hK hP hD hS k (wm_at hk hg) rfl 6 (by decide) hlink (fun _ h => h) rfl (by decide +kernel) hn hf (by show 6 < 7; decide) hdg (fun H1 locs1 hP hD hS => kk H1 locs1 (by rw [← wm_set]; exact hP) (by rw [← wm_set]; exact hD) hS)
theorem rg_3_d (hx : p.tables.exec = Jvm.exec) (hb : c.code = cc) (hts : ∀ w ∈ Ts, w.before args s = true) (hin : ∀ w ∈ wsX30, w ∈ Ts) (hown : s.vm.findClass own = some m.cls) (hK : va_K D vwCl (ty_s cA) s) (hP : va_P D vwCl (wm_W N ad G) H) (k : Nat) (hk : k < N) {v0 v1 v2 v3 : Value} (hg : G k = .inr (3, [v0, v1, v2, v3])) (hlink : (Cond.fieldLink own index "DecimalRegistersModel$Row" "d" "[I").before args s = true) (hdg : decode cc pc = .ok (.getfield index, 3)) (kk : W p l e R s m args below meth c H locs cells slots Q (F0 m (pc + 3) ls (v0 :: rest))) : W p l e R s m args below meth c H locs cells slots Q (F0 m pc ls (.ref (ad k) :: rest)) :=
  va_get (ci := 3) (C := RX3) (T := TX3) (N := 4) hx hb hts hin hown hK hP k (wm_at hk hg) rfl 0 (by decide) hlink (fun _ h => h) rfl hdg kk
theorem rg_3_n (hx : p.tables.exec = Jvm.exec) (hb : c.code = cc) (hts : ∀ w ∈ Ts, w.before args s = true) (hin : ∀ w ∈ wsX30, w ∈ Ts) (hown : s.vm.findClass own = some m.cls) (hK : va_K D vwCl (ty_s cA) s) (hP : va_P D vwCl (wm_W N ad G) H) (k : Nat) (hk : k < N) {v0 v1 v2 v3 : Value} (hg : G k = .inr (3, [v0, v1, v2, v3])) (hlink : (Cond.fieldLink own index "DecimalRegistersModel$Row" "n" "I").before args s = true) (hdg : decode cc pc = .ok (.getfield index, 3)) (kk : W p l e R s m args below meth c H locs cells slots Q (F0 m (pc + 3) ls (v1 :: rest))) : W p l e R s m args below meth c H locs cells slots Q (F0 m pc ls (.ref (ad k) :: rest)) :=
  va_get (ci := 3) (C := RX3) (T := TX3) (N := 4) hx hb hts hin hown hK hP k (wm_at hk hg) rfl 1 (by decide) hlink (fun _ h => h) rfl hdg kk
theorem rp_3_n (hx : p.tables.exec = Jvm.exec) (hb : c.code = cc) (hts : ∀ w ∈ Ts, w.before args s = true) (hin : ∀ w ∈ wsX30, w ∈ Ts) (hown : s.vm.findClass own = some m.cls) (hK : va_K D vwCl (ty_s cA) s) (hP : va_P D vwCl (wm_W N ad G) H) (hD : va_D A (wm_W N ad G)) (hS : va_S A H0 H locs) (k : Nat) (hk : k < N) {v0 v1 v2 v3 v : Value} (hg : G k = .inr (3, [v0, v1, v2, v3])) (hlink : (Cond.fieldLink own index "DecimalRegistersModel$Row" "n" "I").before args s = true) (hn : narrow .int v = v) (hf : fits .int v = true) (hdg : decode cc pc = .ok (.putfield index, 3)) (kk : ∀ (H1 : Heap) (locs1 : List Loc), va_P D vwCl (wm_W N ad (va_up G k (.inr (3, [v0, v, v2, v3])))) H1 → va_D A (wm_W N ad (va_up G k (.inr (3, [v0, v, v2, v3])))) → va_S A H0 H1 locs1 → W p l e R s m args below meth c H1 locs1 cells slots Q (F0 m (pc + 3) ls rest)) : W p l e R s m args below meth c H locs cells slots Q (F0 m pc ls (v :: .ref (ad k) :: rest)) :=
  va_put (ci := 3) (C := RX3) (T := TX3) (N := 4) (ty := .int) hx hb hts hin tyX3 tyX3_ok nmX3 hown hK hP hD hS k (wm_at hk hg) rfl 1 (by decide) hlink (fun _ h => h) rfl (by decide +kernel) hn hf (by show 1 < 4; decide) hdg (fun H1 locs1 hP hD hS => kk H1 locs1 (by rw [← wm_set]; exact hP) (by rw [← wm_set]; exact hD) hS)
theorem rg_3_minus (hx : p.tables.exec = Jvm.exec) (hb : c.code = cc) (hts : ∀ w ∈ Ts, w.before args s = true) (hin : ∀ w ∈ wsX30, w ∈ Ts) (hown : s.vm.findClass own = some m.cls) (hK : va_K D vwCl (ty_s cA) s) (hP : va_P D vwCl (wm_W N ad G) H) (k : Nat) (hk : k < N) {v0 v1 v2 v3 : Value} (hg : G k = .inr (3, [v0, v1, v2, v3])) (hlink : (Cond.fieldLink own index "DecimalRegistersModel$Row" "minus" "Z").before args s = true) (hdg : decode cc pc = .ok (.getfield index, 3)) (kk : W p l e R s m args below meth c H locs cells slots Q (F0 m (pc + 3) ls (v2 :: rest))) : W p l e R s m args below meth c H locs cells slots Q (F0 m pc ls (.ref (ad k) :: rest)) :=
  va_get (ci := 3) (C := RX3) (T := TX3) (N := 4) hx hb hts hin hown hK hP k (wm_at hk hg) rfl 2 (by decide) hlink (fun _ h => h) rfl hdg kk
theorem rp_3_minus (hx : p.tables.exec = Jvm.exec) (hb : c.code = cc) (hts : ∀ w ∈ Ts, w.before args s = true) (hin : ∀ w ∈ wsX30, w ∈ Ts) (hown : s.vm.findClass own = some m.cls) (hK : va_K D vwCl (ty_s cA) s) (hP : va_P D vwCl (wm_W N ad G) H) (hD : va_D A (wm_W N ad G)) (hS : va_S A H0 H locs) (k : Nat) (hk : k < N) {v0 v1 v2 v3 v : Value} (hg : G k = .inr (3, [v0, v1, v2, v3])) (hlink : (Cond.fieldLink own index "DecimalRegistersModel$Row" "minus" "Z").before args s = true) (hn : narrow .boolean v = v) (hf : fits .boolean v = true) (hdg : decode cc pc = .ok (.putfield index, 3)) (kk : ∀ (H1 : Heap) (locs1 : List Loc), va_P D vwCl (wm_W N ad (va_up G k (.inr (3, [v0, v1, v, v3])))) H1 → va_D A (wm_W N ad (va_up G k (.inr (3, [v0, v1, v, v3])))) → va_S A H0 H1 locs1 → W p l e R s m args below meth c H1 locs1 cells slots Q (F0 m (pc + 3) ls rest)) : W p l e R s m args below meth c H locs cells slots Q (F0 m pc ls (v :: .ref (ad k) :: rest)) :=
  va_put (ci := 3) (C := RX3) (T := TX3) (N := 4) (ty := .boolean) hx hb hts hin tyX3 tyX3_ok nmX3 hown hK hP hD hS k (wm_at hk hg) rfl 2 (by decide) hlink (fun _ h => h) rfl (by decide +kernel) hn hf (by show 2 < 4; decide) hdg (fun H1 locs1 hP hD hS => kk H1 locs1 (by rw [← wm_set]; exact hP) (by rw [← wm_set]; exact hD) hS)
theorem rg_3_scale (hx : p.tables.exec = Jvm.exec) (hb : c.code = cc) (hts : ∀ w ∈ Ts, w.before args s = true) (hin : ∀ w ∈ wsX30, w ∈ Ts) (hown : s.vm.findClass own = some m.cls) (hK : va_K D vwCl (ty_s cA) s) (hP : va_P D vwCl (wm_W N ad G) H) (k : Nat) (hk : k < N) {v0 v1 v2 v3 : Value} (hg : G k = .inr (3, [v0, v1, v2, v3])) (hlink : (Cond.fieldLink own index "DecimalRegistersModel$Row" "scale" "I").before args s = true) (hdg : decode cc pc = .ok (.getfield index, 3)) (kk : W p l e R s m args below meth c H locs cells slots Q (F0 m (pc + 3) ls (v3 :: rest))) : W p l e R s m args below meth c H locs cells slots Q (F0 m pc ls (.ref (ad k) :: rest)) :=
  va_get (ci := 3) (C := RX3) (T := TX3) (N := 4) hx hb hts hin hown hK hP k (wm_at hk hg) rfl 3 (by decide) hlink (fun _ h => h) rfl hdg kk
theorem rp_3_scale (hx : p.tables.exec = Jvm.exec) (hb : c.code = cc) (hts : ∀ w ∈ Ts, w.before args s = true) (hin : ∀ w ∈ wsX30, w ∈ Ts) (hown : s.vm.findClass own = some m.cls) (hK : va_K D vwCl (ty_s cA) s) (hP : va_P D vwCl (wm_W N ad G) H) (hD : va_D A (wm_W N ad G)) (hS : va_S A H0 H locs) (k : Nat) (hk : k < N) {v0 v1 v2 v3 v : Value} (hg : G k = .inr (3, [v0, v1, v2, v3])) (hlink : (Cond.fieldLink own index "DecimalRegistersModel$Row" "scale" "I").before args s = true) (hn : narrow .int v = v) (hf : fits .int v = true) (hdg : decode cc pc = .ok (.putfield index, 3)) (kk : ∀ (H1 : Heap) (locs1 : List Loc), va_P D vwCl (wm_W N ad (va_up G k (.inr (3, [v0, v1, v2, v])))) H1 → va_D A (wm_W N ad (va_up G k (.inr (3, [v0, v1, v2, v])))) → va_S A H0 H1 locs1 → W p l e R s m args below meth c H1 locs1 cells slots Q (F0 m (pc + 3) ls rest)) : W p l e R s m args below meth c H locs cells slots Q (F0 m pc ls (v :: .ref (ad k) :: rest)) :=
  va_put (ci := 3) (C := RX3) (T := TX3) (N := 4) (ty := .int) hx hb hts hin tyX3 tyX3_ok nmX3 hown hK hP hD hS k (wm_at hk hg) rfl 3 (by decide) hlink (fun _ h => h) rfl (by decide +kernel) hn hf (by show 3 < 4; decide) hdg (fun H1 locs1 hP hD hS => kk H1 locs1 (by rw [← wm_set]; exact hP) (by rw [← wm_set]; exact hD) hS)
theorem rg_4_registers (hx : p.tables.exec = Jvm.exec) (hb : c.code = cc) (hts : ∀ w ∈ Ts, w.before args s = true) (hin : ∀ w ∈ wsX40, w ∈ Ts) (hown : s.vm.findClass own = some m.cls) (hK : va_K D vwCl (ty_s cA) s) (hP : va_P D vwCl (wm_W N ad G) H) (k : Nat) (hk : k < N) {v0 v1 v2 v3 v4 v5 v6 : Value} (hg : G k = .inr (4, [v0, v1, v2, v3, v4, v5, v6])) (hlink : (Cond.fieldLink own index "DecimalRegistersModel" "registers" "[LDecimalRegistersModel$Row;").before args s = true) (hdg : decode cc pc = .ok (.getfield index, 3)) (kk : W p l e R s m args below meth c H locs cells slots Q (F0 m (pc + 3) ls (v0 :: rest))) : W p l e R s m args below meth c H locs cells slots Q (F0 m pc ls (.ref (ad k) :: rest)) :=
  va_get (ci := 4) (C := RX4) (T := TX4) (N := 7) hx hb hts hin hown hK hP k (wm_at hk hg) rfl 0 (by decide) hlink (fun _ h => h) rfl hdg kk
theorem rg_4_a (hx : p.tables.exec = Jvm.exec) (hb : c.code = cc) (hts : ∀ w ∈ Ts, w.before args s = true) (hin : ∀ w ∈ wsX40, w ∈ Ts) (hown : s.vm.findClass own = some m.cls) (hK : va_K D vwCl (ty_s cA) s) (hP : va_P D vwCl (wm_W N ad G) H) (k : Nat) (hk : k < N) {v0 v1 v2 v3 v4 v5 v6 : Value} (hg : G k = .inr (4, [v0, v1, v2, v3, v4, v5, v6])) (hlink : (Cond.fieldLink own index "DecimalRegistersModel" "a" "LDecimalRegistersModel$Row;").before args s = true) (hdg : decode cc pc = .ok (.getfield index, 3)) (kk : W p l e R s m args below meth c H locs cells slots Q (F0 m (pc + 3) ls (v1 :: rest))) : W p l e R s m args below meth c H locs cells slots Q (F0 m pc ls (.ref (ad k) :: rest)) :=
  va_get (ci := 4) (C := RX4) (T := TX4) (N := 7) hx hb hts hin hown hK hP k (wm_at hk hg) rfl 1 (by decide) hlink (fun _ h => h) rfl hdg kk
theorem rg_4_b (hx : p.tables.exec = Jvm.exec) (hb : c.code = cc) (hts : ∀ w ∈ Ts, w.before args s = true) (hin : ∀ w ∈ wsX40, w ∈ Ts) (hown : s.vm.findClass own = some m.cls) (hK : va_K D vwCl (ty_s cA) s) (hP : va_P D vwCl (wm_W N ad G) H) (k : Nat) (hk : k < N) {v0 v1 v2 v3 v4 v5 v6 : Value} (hg : G k = .inr (4, [v0, v1, v2, v3, v4, v5, v6])) (hlink : (Cond.fieldLink own index "DecimalRegistersModel" "b" "LDecimalRegistersModel$Row;").before args s = true) (hdg : decode cc pc = .ok (.getfield index, 3)) (kk : W p l e R s m args below meth c H locs cells slots Q (F0 m (pc + 3) ls (v2 :: rest))) : W p l e R s m args below meth c H locs cells slots Q (F0 m pc ls (.ref (ad k) :: rest)) :=
  va_get (ci := 4) (C := RX4) (T := TX4) (N := 7) hx hb hts hin hown hK hP k (wm_at hk hg) rfl 2 (by decide) hlink (fun _ h => h) rfl hdg kk
theorem rg_4_c (hx : p.tables.exec = Jvm.exec) (hb : c.code = cc) (hts : ∀ w ∈ Ts, w.before args s = true) (hin : ∀ w ∈ wsX40, w ∈ Ts) (hown : s.vm.findClass own = some m.cls) (hK : va_K D vwCl (ty_s cA) s) (hP : va_P D vwCl (wm_W N ad G) H) (k : Nat) (hk : k < N) {v0 v1 v2 v3 v4 v5 v6 : Value} (hg : G k = .inr (4, [v0, v1, v2, v3, v4, v5, v6])) (hlink : (Cond.fieldLink own index "DecimalRegistersModel" "c" "LDecimalRegistersModel$Row;").before args s = true) (hdg : decode cc pc = .ok (.getfield index, 3)) (kk : W p l e R s m args below meth c H locs cells slots Q (F0 m (pc + 3) ls (v3 :: rest))) : W p l e R s m args below meth c H locs cells slots Q (F0 m pc ls (.ref (ad k) :: rest)) :=
  va_get (ci := 4) (C := RX4) (T := TX4) (N := 7) hx hb hts hin hown hK hP k (wm_at hk hg) rfl 3 (by decide) hlink (fun _ h => h) rfl hdg kk
theorem rg_4_e (hx : p.tables.exec = Jvm.exec) (hb : c.code = cc) (hts : ∀ w ∈ Ts, w.before args s = true) (hin : ∀ w ∈ wsX40, w ∈ Ts) (hown : s.vm.findClass own = some m.cls) (hK : va_K D vwCl (ty_s cA) s) (hP : va_P D vwCl (wm_W N ad G) H) (k : Nat) (hk : k < N) {v0 v1 v2 v3 v4 v5 v6 : Value} (hg : G k = .inr (4, [v0, v1, v2, v3, v4, v5, v6])) (hlink : (Cond.fieldLink own index "DecimalRegistersModel" "e" "LDecimalRegistersModel$Row;").before args s = true) (hdg : decode cc pc = .ok (.getfield index, 3)) (kk : W p l e R s m args below meth c H locs cells slots Q (F0 m (pc + 3) ls (v4 :: rest))) : W p l e R s m args below meth c H locs cells slots Q (F0 m pc ls (.ref (ad k) :: rest)) :=
  va_get (ci := 4) (C := RX4) (T := TX4) (N := 7) hx hb hts hin hown hK hP k (wm_at hk hg) rfl 4 (by decide) hlink (fun _ h => h) rfl hdg kk
theorem rg_4_text (hx : p.tables.exec = Jvm.exec) (hb : c.code = cc) (hts : ∀ w ∈ Ts, w.before args s = true) (hin : ∀ w ∈ wsX40, w ∈ Ts) (hown : s.vm.findClass own = some m.cls) (hK : va_K D vwCl (ty_s cA) s) (hP : va_P D vwCl (wm_W N ad G) H) (k : Nat) (hk : k < N) {v0 v1 v2 v3 v4 v5 v6 : Value} (hg : G k = .inr (4, [v0, v1, v2, v3, v4, v5, v6])) (hlink : (Cond.fieldLink own index "DecimalRegistersModel" "text" "[I").before args s = true) (hdg : decode cc pc = .ok (.getfield index, 3)) (kk : W p l e R s m args below meth c H locs cells slots Q (F0 m (pc + 3) ls (v5 :: rest))) : W p l e R s m args below meth c H locs cells slots Q (F0 m pc ls (.ref (ad k) :: rest)) :=
  va_get (ci := 4) (C := RX4) (T := TX4) (N := 7) hx hb hts hin hown hK hP k (wm_at hk hg) rfl 5 (by decide) hlink (fun _ h => h) rfl hdg kk
theorem rg_4_length (hx : p.tables.exec = Jvm.exec) (hb : c.code = cc) (hts : ∀ w ∈ Ts, w.before args s = true) (hin : ∀ w ∈ wsX40, w ∈ Ts) (hown : s.vm.findClass own = some m.cls) (hK : va_K D vwCl (ty_s cA) s) (hP : va_P D vwCl (wm_W N ad G) H) (k : Nat) (hk : k < N) {v0 v1 v2 v3 v4 v5 v6 : Value} (hg : G k = .inr (4, [v0, v1, v2, v3, v4, v5, v6])) (hlink : (Cond.fieldLink own index "DecimalRegistersModel" "length" "I").before args s = true) (hdg : decode cc pc = .ok (.getfield index, 3)) (kk : W p l e R s m args below meth c H locs cells slots Q (F0 m (pc + 3) ls (v6 :: rest))) : W p l e R s m args below meth c H locs cells slots Q (F0 m pc ls (.ref (ad k) :: rest)) :=
  va_get (ci := 4) (C := RX4) (T := TX4) (N := 7) hx hb hts hin hown hK hP k (wm_at hk hg) rfl 6 (by decide) hlink (fun _ h => h) rfl hdg kk
theorem rp_4_length (hx : p.tables.exec = Jvm.exec) (hb : c.code = cc) (hts : ∀ w ∈ Ts, w.before args s = true) (hin : ∀ w ∈ wsX40, w ∈ Ts) (hown : s.vm.findClass own = some m.cls) (hK : va_K D vwCl (ty_s cA) s) (hP : va_P D vwCl (wm_W N ad G) H) (hD : va_D A (wm_W N ad G)) (hS : va_S A H0 H locs) (k : Nat) (hk : k < N) {v0 v1 v2 v3 v4 v5 v6 v : Value} (hg : G k = .inr (4, [v0, v1, v2, v3, v4, v5, v6])) (hlink : (Cond.fieldLink own index "DecimalRegistersModel" "length" "I").before args s = true) (hn : narrow .int v = v) (hf : fits .int v = true) (hdg : decode cc pc = .ok (.putfield index, 3)) (kk : ∀ (H1 : Heap) (locs1 : List Loc), va_P D vwCl (wm_W N ad (va_up G k (.inr (4, [v0, v1, v2, v3, v4, v5, v])))) H1 → va_D A (wm_W N ad (va_up G k (.inr (4, [v0, v1, v2, v3, v4, v5, v])))) → va_S A H0 H1 locs1 → W p l e R s m args below meth c H1 locs1 cells slots Q (F0 m (pc + 3) ls rest)) : W p l e R s m args below meth c H locs cells slots Q (F0 m pc ls (v :: .ref (ad k) :: rest)) :=
  va_put (ci := 4) (C := RX4) (T := TX4) (N := 7) (ty := .int) hx hb hts hin tyX4 tyX4_ok nmX4 hown hK hP hD hS k (wm_at hk hg) rfl 6 (by decide) hlink (fun _ h => h) rfl (by decide +kernel) hn hf (by show 6 < 7; decide) hdg (fun H1 locs1 hP hD hS => kk H1 locs1 (by rw [← wm_set]; exact hP) (by rw [← wm_set]; exact hD) hS)
theorem ra_l (hx : p.tables.exec = Jvm.exec) (hb : c.code = cc) (hK : va_K D vwCl (ty_s cA) s) (hP : va_P D vwCl (wm_W N ad G) H) (k : Nat) (hk : k < N) {n : Nat} {f : Nat → Int64} (hg : G k = .inl (cA 0, n, .inr (.inl f))) {i : Int32} (hin : vp_in i n) (hdg : decode cc pc = .ok (.laload, 1)) (kk : W p l e R s m args below meth c H locs cells slots Q (F0 m (pc + 1) ls (.long (f i.toNatClampNeg) :: rest))) : W p l e R s m args below meth c H locs cells slots Q (F0 m pc ls (.int i :: .ref (ad k) :: rest)) :=
  va_lald hx hb hK hP k 0 (wm_at hk hg) rfl hin hdg kk
theorem rs_l (hx : p.tables.exec = Jvm.exec) (hb : c.code = cc) (hK : va_K D vwCl (ty_s cA) s) (hP : va_P D vwCl (wm_W N ad G) H) (hD : va_D A (wm_W N ad G)) (hS : va_S A H0 H locs) (k : Nat) (hk : k < N) {n : Nat} {f : Nat → Int64} (hg : G k = .inl (cA 0, n, .inr (.inl f))) {i : Int32} {x : Int64} (hin : vp_in i n) (hdg : decode cc pc = .ok (.lastore, 1)) (kk : ∀ (H1 : Heap) (locs1 : List Loc), va_P D vwCl (wm_W N ad (va_up G k (.inl (cA 0, n, .inr (.inl (vp_updL f i.toNatClampNeg x)))))) H1 → va_D A (wm_W N ad (va_up G k (.inl (cA 0, n, .inr (.inl (vp_updL f i.toNatClampNeg x)))))) → va_S A H0 H1 locs1 → W p l e R s m args below meth c H1 locs1 cells slots Q (F0 m (pc + 1) ls rest)) : W p l e R s m args below meth c H locs cells slots Q (F0 m pc ls (.long x :: .int i :: .ref (ad k) :: rest)) :=
  va_last hx hb hK hP hD hS k 0 (wm_at hk hg) rfl hin hdg (fun H1 locs1 hP hD hS => kk H1 locs1 (by rw [← wm_set]; exact hP) (by rw [← wm_set]; exact hD) hS)
theorem ra_i (hx : p.tables.exec = Jvm.exec) (hb : c.code = cc) (hK : va_K D vwCl (ty_s cA) s) (hP : va_P D vwCl (wm_W N ad G) H) (k : Nat) (hk : k < N) {n : Nat} {f : Nat → Int32} (hg : G k = .inl (cA 3, n, .inl f)) {i : Int32} (hin : vp_in i n) (hdg : decode cc pc = .ok (.iaload, 1)) (kk : W p l e R s m args below meth c H locs cells slots Q (F0 m (pc + 1) ls (.int (f i.toNatClampNeg) :: rest))) : W p l e R s m args below meth c H locs cells slots Q (F0 m pc ls (.int i :: .ref (ad k) :: rest)) :=
  va_iald hx hb hK hP k 3 (wm_at hk hg) rfl hin hdg kk
theorem rs_i (hx : p.tables.exec = Jvm.exec) (hb : c.code = cc) (hK : va_K D vwCl (ty_s cA) s) (hP : va_P D vwCl (wm_W N ad G) H) (hD : va_D A (wm_W N ad G)) (hS : va_S A H0 H locs) (k : Nat) (hk : k < N) {n : Nat} {f : Nat → Int32} (hg : G k = .inl (cA 3, n, .inl f)) {i : Int32} {x : Int32} (hin : vp_in i n) (hdg : decode cc pc = .ok (.iastore, 1)) (kk : ∀ (H1 : Heap) (locs1 : List Loc), va_P D vwCl (wm_W N ad (va_up G k (.inl (cA 3, n, .inl (upd f i.toNatClampNeg x))))) H1 → va_D A (wm_W N ad (va_up G k (.inl (cA 3, n, .inl (upd f i.toNatClampNeg x))))) → va_S A H0 H1 locs1 → W p l e R s m args below meth c H1 locs1 cells slots Q (F0 m (pc + 1) ls rest)) : W p l e R s m args below meth c H locs cells slots Q (F0 m pc ls (.int x :: .int i :: .ref (ad k) :: rest)) :=
  va_iast hx hb hK hP hD hS k 3 (wm_at hk hg) rfl hin hdg (fun H1 locs1 hP hD hS => kk H1 locs1 (by rw [← wm_set]; exact hP) (by rw [← wm_set]; exact hD) hS)
theorem ra_c (hx : p.tables.exec = Jvm.exec) (hb : c.code = cc) (hK : va_K D vwCl (ty_s cA) s) (hP : va_P D vwCl (wm_W N ad G) H) (k : Nat) (hk : k < N) {n : Nat} {f : Nat → Int32} (hg : G k = .inl (cA 2, n, .inl f)) {i : Int32} (hin : vp_in i n) (hdg : decode cc pc = .ok (.caload, 1)) (kk : W p l e R s m args below meth c H locs cells slots Q (F0 m (pc + 1) ls (.int (f i.toNatClampNeg) :: rest))) : W p l e R s m args below meth c H locs cells slots Q (F0 m pc ls (.int i :: .ref (ad k) :: rest)) :=
  va_cald hx hb hK hP k 2 (wm_at hk hg) rfl hin hdg kk
theorem rs_c (hx : p.tables.exec = Jvm.exec) (hb : c.code = cc) (hK : va_K D vwCl (ty_s cA) s) (hP : va_P D vwCl (wm_W N ad G) H) (hD : va_D A (wm_W N ad G)) (hS : va_S A H0 H locs) (k : Nat) (hk : k < N) {n : Nat} {f : Nat → Int32} (hg : G k = .inl (cA 2, n, .inl f)) {i : Int32} {x : Int32} (hin : vp_in i n) (hdg : decode cc pc = .ok (.castore, 1)) (kk : ∀ (H1 : Heap) (locs1 : List Loc), va_P D vwCl (wm_W N ad (va_up G k (.inl (cA 2, n, .inl (upd f i.toNatClampNeg (vp_nar .char x)))))) H1 → va_D A (wm_W N ad (va_up G k (.inl (cA 2, n, .inl (upd f i.toNatClampNeg (vp_nar .char x)))))) → va_S A H0 H1 locs1 → W p l e R s m args below meth c H1 locs1 cells slots Q (F0 m (pc + 1) ls rest)) : W p l e R s m args below meth c H locs cells slots Q (F0 m pc ls (.int x :: .int i :: .ref (ad k) :: rest)) :=
  va_cast hx hb hK hP hD hS k 2 (wm_at hk hg) rfl hin hdg (fun H1 locs1 hP hD hS => kk H1 locs1 (by rw [← wm_set]; exact hP) (by rw [← wm_set]; exact hD) hS)
theorem ra_q1 (hx : p.tables.exec = Jvm.exec) (hb : c.code = cc) (hK : va_K D vwCl (ty_s cA) s) (hP : va_P D vwCl (wm_W N ad G) H) (k : Nat) (hk : k < N) {n : Nat} {f : Nat → Option Nat} (hg : G k = .inl (cA 1, n, .inr (.inr (.inr (.inr f))))) {i : Int32} (hin : vp_in i n) (hdg : decode cc pc = .ok (.aaload, 1)) (kk : W p l e R s m args below meth c H locs cells slots Q (F0 m (pc + 1) ls (va_rf (f i.toNatClampNeg) :: rest))) : W p l e R s m args below meth c H locs cells slots Q (F0 m pc ls (.int i :: .ref (ad k) :: rest)) :=
  va_aldq hx hb hK hP k 1 (wm_at hk hg) rfl hin hdg kk
theorem ra_q4 (hx : p.tables.exec = Jvm.exec) (hb : c.code = cc) (hK : va_K D vwCl (ty_s cA) s) (hP : va_P D vwCl (wm_W N ad G) H) (k : Nat) (hk : k < N) {n : Nat} {f : Nat → Option Nat} (hg : G k = .inl (cA 4, n, .inr (.inr (.inr (.inr f))))) {i : Int32} (hin : vp_in i n) (hdg : decode cc pc = .ok (.aaload, 1)) (kk : W p l e R s m args below meth c H locs cells slots Q (F0 m (pc + 1) ls (va_rf (f i.toNatClampNeg) :: rest))) : W p l e R s m args below meth c H locs cells slots Q (F0 m pc ls (.int i :: .ref (ad k) :: rest)) :=
  va_aldq hx hb hK hP k 4 (wm_at hk hg) rfl hin hdg kk
end WD
end
section
/-! rows for tops, branches over numbers, arrays by numbers; a Natural's raw world -/
theorem nI_zero_eq {a : Nat} (ha : a < 2 ^ 31) : nI a = 0 ↔ a = 0 := by
  rw [← nI_0]; exact nI_eq ha (by decide)
def iZ (z : Int) : Int32 := Int32.ofInt z
theorem iZ_toInt {z : Int} (h1 : -2147483648 ≤ z) (h2 : z < 2147483648) : (iZ z).toInt = z := by
  rw [iZ]; exact Int32.toInt_ofInt_of_le (by simpa using h1) (by simpa using h2)
theorem iZ_self (x : Int32) : iZ x.toInt = x := Int32.ofInt_toInt x
theorem iZ_nat (n : Nat) : nI n = iZ (n : Int) := Int32.ofInt_eq_ofNat.symm
theorem iZ_add (a b : Int) : iZ a + iZ b = iZ (a + b) := (Int32.ofInt_add a b).symm
theorem iZ_sub (a b : Int) : iZ a - iZ b = iZ (a - b) := (Int32.ofInt_sub a b).symm
theorem iZ_neg (a : Int) : -iZ a = iZ (-a) := (Int32.ofInt_neg a).symm
theorem iZ_le {a b : Int} (a1 : -2147483648 ≤ a) (a2 : a < 2147483648) (b1 : -2147483648 ≤ b) (b2 : b < 2147483648) : iZ a ≤ iZ b ↔ a ≤ b := by
  rw [Int32.le_iff_toInt_le, iZ_toInt a1 a2, iZ_toInt b1 b2]
theorem iZ_lt {a b : Int} (a1 : -2147483648 ≤ a) (a2 : a < 2147483648) (b1 : -2147483648 ≤ b) (b2 : b < 2147483648) : iZ a < iZ b ↔ a < b := by
  rw [Int32.lt_iff_toInt_lt, iZ_toInt a1 a2, iZ_toInt b1 b2]
theorem iZ_eq {a b : Int} (a1 : -2147483648 ≤ a) (a2 : a < 2147483648) (b1 : -2147483648 ≤ b) (b2 : b < 2147483648) : iZ a = iZ b ↔ a = b := by
  constructor
  · intro h
    have := congrArg Int32.toInt h
    rwa [iZ_toInt a1 a2, iZ_toInt b1 b2] at this
  · intro h; rw [h]
def lZ (z : Int) : Int64 := Int64.ofInt z
theorem lZ_toInt {z : Int} (h1 : -9223372036854775808 ≤ z) (h2 : z < 9223372036854775808) : (lZ z).toInt = z := by
  rw [lZ]; exact Int64.toInt_ofInt_of_le (by simpa using h1) (by simpa using h2)
theorem lZ_self (x : Int64) : lZ x.toInt = x := Int64.ofInt_toInt x
theorem lZ_nat (n : Nat) : lN n = lZ (n : Int) := Int64.ofInt_eq_ofNat.symm
theorem lZ_add (a b : Int) : lZ a + lZ b = lZ (a + b) := (Int64.ofInt_add a b).symm
theorem lZ_sub (a b : Int) : lZ a - lZ b = lZ (a - b) := (Int64.ofInt_sub a b).symm
theorem lZ_mul (a b : Int) : lZ a * lZ b = lZ (a * b) := (Int64.ofInt_mul a b).symm
theorem lZ_neg (a : Int) : -lZ a = lZ (-a) := (Int64.ofInt_neg a).symm
theorem lZ_le {a b : Int} (a1 : -9223372036854775808 ≤ a) (a2 : a < 9223372036854775808) (b1 : -9223372036854775808 ≤ b) (b2 : b < 9223372036854775808) : lZ a ≤ lZ b ↔ a ≤ b := by
  rw [Int64.le_iff_toInt_le, lZ_toInt a1 a2, lZ_toInt b1 b2]
theorem lZ_lt {a b : Int} (a1 : -9223372036854775808 ≤ a) (a2 : a < 9223372036854775808) (b1 : -9223372036854775808 ≤ b) (b2 : b < 9223372036854775808) : lZ a < lZ b ↔ a < b := by
  rw [Int64.lt_iff_toInt_lt, lZ_toInt a1 a2, lZ_toInt b1 b2]
theorem lZ_eq {a b : Int} (a1 : -9223372036854775808 ≤ a) (a2 : a < 9223372036854775808) (b1 : -9223372036854775808 ≤ b) (b2 : b < 9223372036854775808) : lZ a = lZ b ↔ a = b := by
  constructor
  · intro h
    have := congrArg Int64.toInt h
    rwa [lZ_toInt a1 a2, lZ_toInt b1 b2] at this
  · intro h; rw [h]
section RW
variable {p : Program} {l : Launch} {e : Env} {R : Room} {s : State} {m : MethodId} {args : Array Value} {below : List Frame} {meth : Method} {c : Code} {H H0 : Heap} {locs : List Loc} {cells slots : Nat} {Q : State → Prop} {cc : ByteArray} {pc : Nat} {ls : Array Slot} {rest : List Value} {Ts : List Cond} {own : String} {index : Nat} {D : va_G} {cA : Nat → ClassId} {tT : Nat} {A : Nat → Prop} {N : Nat} {ad : Nat → Nat} {G g : Nat → va_E}
theorem tp_i {x y : Int32} (h : x = y) (k : W p l e R s m args below meth c H locs cells slots Q (F0 m pc ls (.int y :: rest))) : W p l e R s m args below meth c H locs cells slots Q (F0 m pc ls (.int x :: rest)) := by rw [h]; exact k
theorem tp_l {x y : Int64} (h : x = y) (k : W p l e R s m args below meth c H locs cells slots Q (F0 m pc ls (.long y :: rest))) : W p l e R s m args below meth c H locs cells slots Q (F0 m pc ls (.long x :: rest)) := by rw [h]; exact k
theorem tp_v {x y : Value} (h : x = y) (k : W p l e R s m args below meth c H locs cells slots Q (F0 m pc ls (y :: rest))) : W p l e R s m args below meth c H locs cells slots Q (F0 m pc ls (x :: rest)) := by rw [h]; exact k
theorem nI_ic (n : Nat) : Int32.ofInt (n : Int) = nI n := Int32.ofInt_eq_ofNat
theorem bi_eq (hx : p.tables.exec = Jvm.exec) (hb : c.code = cc) {a b : Nat} {off : Int} {tgt : Nat} (hdg : decode cc pc = .ok (.if_icmp .eq off, 3)) (ht : (pc : Int) + off = (tgt : Int)) (ha : a < 2 ^ 31) (hb2 : b < 2 ^ 31) (kt : a = b → W p l e R s m args below meth c H locs cells slots Q (F0 m tgt ls rest)) (kf : ¬ a = b → W p l e R s m args below meth c H locs cells slots Q (F0 m (pc + 3) ls rest)) : W p l e R s m args below meth c H locs cells slots Q (F0 m pc ls (.int (nI b) :: .int (nI a) :: rest)) :=
  lv_icmp_eq hx hb hdg ht (fun h => kt ((nI_eq ha hb2).mp h)) (fun h => kf (fun q => h ((nI_eq ha hb2).mpr q)))
theorem bz_eq (hx : p.tables.exec = Jvm.exec) (hb : c.code = cc) {a : Nat} {off : Int} {tgt : Nat} (hdg : decode cc pc = .ok (.ifCond .eq off, 3)) (ht : (pc : Int) + off = (tgt : Int)) (ha : a < 2 ^ 31) (kt : a = 0 → W p l e R s m args below meth c H locs cells slots Q (F0 m tgt ls rest)) (kf : ¬ a = 0 → W p l e R s m args below meth c H locs cells slots Q (F0 m (pc + 3) ls rest)) : W p l e R s m args below meth c H locs cells slots Q (F0 m pc ls (.int (nI a) :: rest)) :=
  have hb2 : 0 < 2 ^ 31 := by decide
  lv_if_eq hx hb hdg ht (fun h => kt ((nI_eq ha hb2).mp (by rw [nI_0]; exact h))) (fun h => kf (fun q => h (by rw [← nI_0]; exact (nI_eq ha hb2).mpr q)))
theorem bL_eq (hx : p.tables.exec = Jvm.exec) (hb : c.code = cc) {x y : Int64} {off : Int} {tgt : Nat} (hd0 : decode cc pc = .ok (.lcmp, 1)) (hdg : decode cc (pc + 1) = .ok (.ifCond .eq off, 3)) (ht : ((pc + 1 : Nat) : Int) + off = (tgt : Int)) (kt : x = y → W p l e R s m args below meth c H locs cells slots Q (F0 m tgt ls rest)) (kf : ¬ x = y → W p l e R s m args below meth c H locs cells slots Q (F0 m (pc + 1 + 3) ls rest)) : W p l e R s m args below meth c H locs cells slots Q (F0 m pc ls (.long y :: .long x :: rest)) :=
  W.lcmp hx hb hd0 (lv_if_eq hx hb hdg ht (fun h => kt ((lg_cmp_eq x y).mp h)) (fun h => kf (fun q => h ((lg_cmp_eq x y).mpr q))))
theorem bl_eq (hx : p.tables.exec = Jvm.exec) (hb : c.code = cc) {a b : Nat} {off : Int} {tgt : Nat} (hd0 : decode cc pc = .ok (.lcmp, 1)) (hdg : decode cc (pc + 1) = .ok (.ifCond .eq off, 3)) (ht : ((pc + 1 : Nat) : Int) + off = (tgt : Int)) (ha : a < 2 ^ 63) (hb2 : b < 2 ^ 63) (kt : a = b → W p l e R s m args below meth c H locs cells slots Q (F0 m tgt ls rest)) (kf : ¬ a = b → W p l e R s m args below meth c H locs cells slots Q (F0 m (pc + 1 + 3) ls rest)) : W p l e R s m args below meth c H locs cells slots Q (F0 m pc ls (.long (lN b) :: .long (lN a) :: rest)) :=
  bL_eq hx hb hd0 hdg ht (fun h => kt ((pk_lEQ ha hb2).mp h)) (fun h => kf (fun q => h ((pk_lEQ ha hb2).mpr q)))
theorem bs_eq (hx : p.tables.exec = Jvm.exec) (hb : c.code = cc) {a b : Int} {off : Int} {tgt : Nat} (hdg : decode cc pc = .ok (.if_icmp .eq off, 3)) (ht : (pc : Int) + off = (tgt : Int)) (a1 : -2147483648 ≤ a) (a2 : a < 2147483648) (b1 : -2147483648 ≤ b) (b2 : b < 2147483648) (kt : a = b → W p l e R s m args below meth c H locs cells slots Q (F0 m tgt ls rest)) (kf : ¬ a = b → W p l e R s m args below meth c H locs cells slots Q (F0 m (pc + 3) ls rest)) : W p l e R s m args below meth c H locs cells slots Q (F0 m pc ls (.int (iZ b) :: .int (iZ a) :: rest)) :=
  lv_icmp_eq hx hb hdg ht (fun h => kt ((iZ_eq a1 a2 b1 b2).mp h)) (fun h => kf (fun q => h ((iZ_eq a1 a2 b1 b2).mpr q)))
theorem by_eq (hx : p.tables.exec = Jvm.exec) (hb : c.code = cc) {a : Int} {off : Int} {tgt : Nat} (hdg : decode cc pc = .ok (.ifCond .eq off, 3)) (ht : (pc : Int) + off = (tgt : Int)) (a1 : -2147483648 ≤ a) (a2 : a < 2147483648) (kt : a = 0 → W p l e R s m args below meth c H locs cells slots Q (F0 m tgt ls rest)) (kf : ¬ a = 0 → W p l e R s m args below meth c H locs cells slots Q (F0 m (pc + 3) ls rest)) : W p l e R s m args below meth c H locs cells slots Q (F0 m pc ls (.int (iZ a) :: rest)) :=
  have b1 : (-2147483648 : Int) ≤ 0 := by decide
  have b2 : (0 : Int) < 2147483648 := by decide
  lv_if_eq hx hb hdg ht (fun h => kt ((iZ_eq a1 a2 b1 b2).mp h)) (fun h => kf (fun q => h ((iZ_eq a1 a2 b1 b2).mpr q)))
theorem bi_lt (hx : p.tables.exec = Jvm.exec) (hb : c.code = cc) {a b : Nat} {off : Int} {tgt : Nat} (hdg : decode cc pc = .ok (.if_icmp .lt off, 3)) (ht : (pc : Int) + off = (tgt : Int)) (ha : a < 2 ^ 31) (hb2 : b < 2 ^ 31) (kt : a < b → W p l e R s m args below meth c H locs cells slots Q (F0 m tgt ls rest)) (kf : ¬ a < b → W p l e R s m args below meth c H locs cells slots Q (F0 m (pc + 3) ls rest)) : W p l e R s m args below meth c H locs cells slots Q (F0 m pc ls (.int (nI b) :: .int (nI a) :: rest)) :=
  lv_icmp_lt hx hb hdg ht (fun h => kt ((nI_ltI ha hb2).mp h)) (fun h => kf (fun q => h ((nI_ltI ha hb2).mpr q)))
theorem bz_lt (hx : p.tables.exec = Jvm.exec) (hb : c.code = cc) {a : Nat} {off : Int} {tgt : Nat} (hdg : decode cc pc = .ok (.ifCond .lt off, 3)) (ht : (pc : Int) + off = (tgt : Int)) (ha : a < 2 ^ 31) (kt : a < 0 → W p l e R s m args below meth c H locs cells slots Q (F0 m tgt ls rest)) (kf : ¬ a < 0 → W p l e R s m args below meth c H locs cells slots Q (F0 m (pc + 3) ls rest)) : W p l e R s m args below meth c H locs cells slots Q (F0 m pc ls (.int (nI a) :: rest)) :=
  have hb2 : 0 < 2 ^ 31 := by decide
  lv_if_lt hx hb hdg ht (fun h => kt ((nI_ltI ha hb2).mp (by rw [nI_0]; exact h))) (fun h => kf (fun q => h (by rw [← nI_0]; exact (nI_ltI ha hb2).mpr q)))
theorem bL_lt (hx : p.tables.exec = Jvm.exec) (hb : c.code = cc) {x y : Int64} {off : Int} {tgt : Nat} (hd0 : decode cc pc = .ok (.lcmp, 1)) (hdg : decode cc (pc + 1) = .ok (.ifCond .lt off, 3)) (ht : ((pc + 1 : Nat) : Int) + off = (tgt : Int)) (kt : x < y → W p l e R s m args below meth c H locs cells slots Q (F0 m tgt ls rest)) (kf : ¬ x < y → W p l e R s m args below meth c H locs cells slots Q (F0 m (pc + 1 + 3) ls rest)) : W p l e R s m args below meth c H locs cells slots Q (F0 m pc ls (.long y :: .long x :: rest)) :=
  W.lcmp hx hb hd0 (lv_if_lt hx hb hdg ht (fun h => kt ((lg_cmp_lt x y).mp h)) (fun h => kf (fun q => h ((lg_cmp_lt x y).mpr q))))
theorem bl_lt (hx : p.tables.exec = Jvm.exec) (hb : c.code = cc) {a b : Nat} {off : Int} {tgt : Nat} (hd0 : decode cc pc = .ok (.lcmp, 1)) (hdg : decode cc (pc + 1) = .ok (.ifCond .lt off, 3)) (ht : ((pc + 1 : Nat) : Int) + off = (tgt : Int)) (ha : a < 2 ^ 63) (hb2 : b < 2 ^ 63) (kt : a < b → W p l e R s m args below meth c H locs cells slots Q (F0 m tgt ls rest)) (kf : ¬ a < b → W p l e R s m args below meth c H locs cells slots Q (F0 m (pc + 1 + 3) ls rest)) : W p l e R s m args below meth c H locs cells slots Q (F0 m pc ls (.long (lN b) :: .long (lN a) :: rest)) :=
  bL_lt hx hb hd0 hdg ht (fun h => kt ((pk_lLT ha hb2).mp h)) (fun h => kf (fun q => h ((pk_lLT ha hb2).mpr q)))
theorem bs_lt (hx : p.tables.exec = Jvm.exec) (hb : c.code = cc) {a b : Int} {off : Int} {tgt : Nat} (hdg : decode cc pc = .ok (.if_icmp .lt off, 3)) (ht : (pc : Int) + off = (tgt : Int)) (a1 : -2147483648 ≤ a) (a2 : a < 2147483648) (b1 : -2147483648 ≤ b) (b2 : b < 2147483648) (kt : a < b → W p l e R s m args below meth c H locs cells slots Q (F0 m tgt ls rest)) (kf : ¬ a < b → W p l e R s m args below meth c H locs cells slots Q (F0 m (pc + 3) ls rest)) : W p l e R s m args below meth c H locs cells slots Q (F0 m pc ls (.int (iZ b) :: .int (iZ a) :: rest)) :=
  lv_icmp_lt hx hb hdg ht (fun h => kt ((iZ_lt a1 a2 b1 b2).mp h)) (fun h => kf (fun q => h ((iZ_lt a1 a2 b1 b2).mpr q)))
theorem by_lt (hx : p.tables.exec = Jvm.exec) (hb : c.code = cc) {a : Int} {off : Int} {tgt : Nat} (hdg : decode cc pc = .ok (.ifCond .lt off, 3)) (ht : (pc : Int) + off = (tgt : Int)) (a1 : -2147483648 ≤ a) (a2 : a < 2147483648) (kt : a < 0 → W p l e R s m args below meth c H locs cells slots Q (F0 m tgt ls rest)) (kf : ¬ a < 0 → W p l e R s m args below meth c H locs cells slots Q (F0 m (pc + 3) ls rest)) : W p l e R s m args below meth c H locs cells slots Q (F0 m pc ls (.int (iZ a) :: rest)) :=
  have b1 : (-2147483648 : Int) ≤ 0 := by decide
  have b2 : (0 : Int) < 2147483648 := by decide
  lv_if_lt hx hb hdg ht (fun h => kt ((iZ_lt a1 a2 b1 b2).mp h)) (fun h => kf (fun q => h ((iZ_lt a1 a2 b1 b2).mpr q)))
theorem bi_le (hx : p.tables.exec = Jvm.exec) (hb : c.code = cc) {a b : Nat} {off : Int} {tgt : Nat} (hdg : decode cc pc = .ok (.if_icmp .le off, 3)) (ht : (pc : Int) + off = (tgt : Int)) (ha : a < 2 ^ 31) (hb2 : b < 2 ^ 31) (kt : a ≤ b → W p l e R s m args below meth c H locs cells slots Q (F0 m tgt ls rest)) (kf : ¬ a ≤ b → W p l e R s m args below meth c H locs cells slots Q (F0 m (pc + 3) ls rest)) : W p l e R s m args below meth c H locs cells slots Q (F0 m pc ls (.int (nI b) :: .int (nI a) :: rest)) :=
  lv_icmp_le hx hb hdg ht (fun h => kt ((nI_leI ha hb2).mp h)) (fun h => kf (fun q => h ((nI_leI ha hb2).mpr q)))
theorem bz_le (hx : p.tables.exec = Jvm.exec) (hb : c.code = cc) {a : Nat} {off : Int} {tgt : Nat} (hdg : decode cc pc = .ok (.ifCond .le off, 3)) (ht : (pc : Int) + off = (tgt : Int)) (ha : a < 2 ^ 31) (kt : a ≤ 0 → W p l e R s m args below meth c H locs cells slots Q (F0 m tgt ls rest)) (kf : ¬ a ≤ 0 → W p l e R s m args below meth c H locs cells slots Q (F0 m (pc + 3) ls rest)) : W p l e R s m args below meth c H locs cells slots Q (F0 m pc ls (.int (nI a) :: rest)) :=
  have hb2 : 0 < 2 ^ 31 := by decide
  lv_if_le hx hb hdg ht (fun h => kt ((nI_leI ha hb2).mp (by rw [nI_0]; exact h))) (fun h => kf (fun q => h (by rw [← nI_0]; exact (nI_leI ha hb2).mpr q)))
theorem bL_le (hx : p.tables.exec = Jvm.exec) (hb : c.code = cc) {x y : Int64} {off : Int} {tgt : Nat} (hd0 : decode cc pc = .ok (.lcmp, 1)) (hdg : decode cc (pc + 1) = .ok (.ifCond .le off, 3)) (ht : ((pc + 1 : Nat) : Int) + off = (tgt : Int)) (kt : x ≤ y → W p l e R s m args below meth c H locs cells slots Q (F0 m tgt ls rest)) (kf : ¬ x ≤ y → W p l e R s m args below meth c H locs cells slots Q (F0 m (pc + 1 + 3) ls rest)) : W p l e R s m args below meth c H locs cells slots Q (F0 m pc ls (.long y :: .long x :: rest)) :=
  W.lcmp hx hb hd0 (lv_if_le hx hb hdg ht (fun h => kt ((lg_cmp_le x y).mp h)) (fun h => kf (fun q => h ((lg_cmp_le x y).mpr q))))
theorem bl_le (hx : p.tables.exec = Jvm.exec) (hb : c.code = cc) {a b : Nat} {off : Int} {tgt : Nat} (hd0 : decode cc pc = .ok (.lcmp, 1)) (hdg : decode cc (pc + 1) = .ok (.ifCond .le off, 3)) (ht : ((pc + 1 : Nat) : Int) + off = (tgt : Int)) (ha : a < 2 ^ 63) (hb2 : b < 2 ^ 63) (kt : a ≤ b → W p l e R s m args below meth c H locs cells slots Q (F0 m tgt ls rest)) (kf : ¬ a ≤ b → W p l e R s m args below meth c H locs cells slots Q (F0 m (pc + 1 + 3) ls rest)) : W p l e R s m args below meth c H locs cells slots Q (F0 m pc ls (.long (lN b) :: .long (lN a) :: rest)) :=
  bL_le hx hb hd0 hdg ht (fun h => kt ((pk_lLE ha hb2).mp h)) (fun h => kf (fun q => h ((pk_lLE ha hb2).mpr q)))
theorem bs_le (hx : p.tables.exec = Jvm.exec) (hb : c.code = cc) {a b : Int} {off : Int} {tgt : Nat} (hdg : decode cc pc = .ok (.if_icmp .le off, 3)) (ht : (pc : Int) + off = (tgt : Int)) (a1 : -2147483648 ≤ a) (a2 : a < 2147483648) (b1 : -2147483648 ≤ b) (b2 : b < 2147483648) (kt : a ≤ b → W p l e R s m args below meth c H locs cells slots Q (F0 m tgt ls rest)) (kf : ¬ a ≤ b → W p l e R s m args below meth c H locs cells slots Q (F0 m (pc + 3) ls rest)) : W p l e R s m args below meth c H locs cells slots Q (F0 m pc ls (.int (iZ b) :: .int (iZ a) :: rest)) :=
  lv_icmp_le hx hb hdg ht (fun h => kt ((iZ_le a1 a2 b1 b2).mp h)) (fun h => kf (fun q => h ((iZ_le a1 a2 b1 b2).mpr q)))
theorem by_le (hx : p.tables.exec = Jvm.exec) (hb : c.code = cc) {a : Int} {off : Int} {tgt : Nat} (hdg : decode cc pc = .ok (.ifCond .le off, 3)) (ht : (pc : Int) + off = (tgt : Int)) (a1 : -2147483648 ≤ a) (a2 : a < 2147483648) (kt : a ≤ 0 → W p l e R s m args below meth c H locs cells slots Q (F0 m tgt ls rest)) (kf : ¬ a ≤ 0 → W p l e R s m args below meth c H locs cells slots Q (F0 m (pc + 3) ls rest)) : W p l e R s m args below meth c H locs cells slots Q (F0 m pc ls (.int (iZ a) :: rest)) :=
  have b1 : (-2147483648 : Int) ≤ 0 := by decide
  have b2 : (0 : Int) < 2147483648 := by decide
  lv_if_le hx hb hdg ht (fun h => kt ((iZ_le a1 a2 b1 b2).mp h)) (fun h => kf (fun q => h ((iZ_le a1 a2 b1 b2).mpr q)))
theorem bi_gt (hx : p.tables.exec = Jvm.exec) (hb : c.code = cc) {a b : Nat} {off : Int} {tgt : Nat} (hdg : decode cc pc = .ok (.if_icmp .gt off, 3)) (ht : (pc : Int) + off = (tgt : Int)) (ha : a < 2 ^ 31) (hb2 : b < 2 ^ 31) (kt : b < a → W p l e R s m args below meth c H locs cells slots Q (F0 m tgt ls rest)) (kf : ¬ b < a → W p l e R s m args below meth c H locs cells slots Q (F0 m (pc + 3) ls rest)) : W p l e R s m args below meth c H locs cells slots Q (F0 m pc ls (.int (nI b) :: .int (nI a) :: rest)) :=
  lv_icmp_gt hx hb hdg ht (fun h => kt ((nI_ltI hb2 ha).mp h)) (fun h => kf (fun q => h ((nI_ltI hb2 ha).mpr q)))
theorem bz_gt (hx : p.tables.exec = Jvm.exec) (hb : c.code = cc) {a : Nat} {off : Int} {tgt : Nat} (hdg : decode cc pc = .ok (.ifCond .gt off, 3)) (ht : (pc : Int) + off = (tgt : Int)) (ha : a < 2 ^ 31) (kt : 0 < a → W p l e R s m args below meth c H locs cells slots Q (F0 m tgt ls rest)) (kf : ¬ 0 < a → W p l e R s m args below meth c H locs cells slots Q (F0 m (pc + 3) ls rest)) : W p l e R s m args below meth c H locs cells slots Q (F0 m pc ls (.int (nI a) :: rest)) :=
  have hb2 : 0 < 2 ^ 31 := by decide
  lv_if_gt hx hb hdg ht (fun h => kt ((nI_ltI hb2 ha).mp (by rw [nI_0]; exact h))) (fun h => kf (fun q => h (by rw [← nI_0]; exact (nI_ltI hb2 ha).mpr q)))
theorem bL_gt (hx : p.tables.exec = Jvm.exec) (hb : c.code = cc) {x y : Int64} {off : Int} {tgt : Nat} (hd0 : decode cc pc = .ok (.lcmp, 1)) (hdg : decode cc (pc + 1) = .ok (.ifCond .gt off, 3)) (ht : ((pc + 1 : Nat) : Int) + off = (tgt : Int)) (kt : y < x → W p l e R s m args below meth c H locs cells slots Q (F0 m tgt ls rest)) (kf : ¬ y < x → W p l e R s m args below meth c H locs cells slots Q (F0 m (pc + 1 + 3) ls rest)) : W p l e R s m args below meth c H locs cells slots Q (F0 m pc ls (.long y :: .long x :: rest)) :=
  W.lcmp hx hb hd0 (lv_if_gt hx hb hdg ht (fun h => kt ((lg_cmp_gt x y).mp h)) (fun h => kf (fun q => h ((lg_cmp_gt x y).mpr q))))
theorem bl_gt (hx : p.tables.exec = Jvm.exec) (hb : c.code = cc) {a b : Nat} {off : Int} {tgt : Nat} (hd0 : decode cc pc = .ok (.lcmp, 1)) (hdg : decode cc (pc + 1) = .ok (.ifCond .gt off, 3)) (ht : ((pc + 1 : Nat) : Int) + off = (tgt : Int)) (ha : a < 2 ^ 63) (hb2 : b < 2 ^ 63) (kt : b < a → W p l e R s m args below meth c H locs cells slots Q (F0 m tgt ls rest)) (kf : ¬ b < a → W p l e R s m args below meth c H locs cells slots Q (F0 m (pc + 1 + 3) ls rest)) : W p l e R s m args below meth c H locs cells slots Q (F0 m pc ls (.long (lN b) :: .long (lN a) :: rest)) :=
  bL_gt hx hb hd0 hdg ht (fun h => kt ((pk_lLT hb2 ha).mp h)) (fun h => kf (fun q => h ((pk_lLT hb2 ha).mpr q)))
theorem bs_gt (hx : p.tables.exec = Jvm.exec) (hb : c.code = cc) {a b : Int} {off : Int} {tgt : Nat} (hdg : decode cc pc = .ok (.if_icmp .gt off, 3)) (ht : (pc : Int) + off = (tgt : Int)) (a1 : -2147483648 ≤ a) (a2 : a < 2147483648) (b1 : -2147483648 ≤ b) (b2 : b < 2147483648) (kt : b < a → W p l e R s m args below meth c H locs cells slots Q (F0 m tgt ls rest)) (kf : ¬ b < a → W p l e R s m args below meth c H locs cells slots Q (F0 m (pc + 3) ls rest)) : W p l e R s m args below meth c H locs cells slots Q (F0 m pc ls (.int (iZ b) :: .int (iZ a) :: rest)) :=
  lv_icmp_gt hx hb hdg ht (fun h => kt ((iZ_lt b1 b2 a1 a2).mp h)) (fun h => kf (fun q => h ((iZ_lt b1 b2 a1 a2).mpr q)))
theorem by_gt (hx : p.tables.exec = Jvm.exec) (hb : c.code = cc) {a : Int} {off : Int} {tgt : Nat} (hdg : decode cc pc = .ok (.ifCond .gt off, 3)) (ht : (pc : Int) + off = (tgt : Int)) (a1 : -2147483648 ≤ a) (a2 : a < 2147483648) (kt : 0 < a → W p l e R s m args below meth c H locs cells slots Q (F0 m tgt ls rest)) (kf : ¬ 0 < a → W p l e R s m args below meth c H locs cells slots Q (F0 m (pc + 3) ls rest)) : W p l e R s m args below meth c H locs cells slots Q (F0 m pc ls (.int (iZ a) :: rest)) :=
  have b1 : (-2147483648 : Int) ≤ 0 := by decide
  have b2 : (0 : Int) < 2147483648 := by decide
  lv_if_gt hx hb hdg ht (fun h => kt ((iZ_lt b1 b2 a1 a2).mp h)) (fun h => kf (fun q => h ((iZ_lt b1 b2 a1 a2).mpr q)))
theorem bi_ge (hx : p.tables.exec = Jvm.exec) (hb : c.code = cc) {a b : Nat} {off : Int} {tgt : Nat} (hdg : decode cc pc = .ok (.if_icmp .ge off, 3)) (ht : (pc : Int) + off = (tgt : Int)) (ha : a < 2 ^ 31) (hb2 : b < 2 ^ 31) (kt : b ≤ a → W p l e R s m args below meth c H locs cells slots Q (F0 m tgt ls rest)) (kf : ¬ b ≤ a → W p l e R s m args below meth c H locs cells slots Q (F0 m (pc + 3) ls rest)) : W p l e R s m args below meth c H locs cells slots Q (F0 m pc ls (.int (nI b) :: .int (nI a) :: rest)) :=
  lv_icmp_ge hx hb hdg ht (fun h => kt ((nI_leI hb2 ha).mp h)) (fun h => kf (fun q => h ((nI_leI hb2 ha).mpr q)))
theorem bz_ge (hx : p.tables.exec = Jvm.exec) (hb : c.code = cc) {a : Nat} {off : Int} {tgt : Nat} (hdg : decode cc pc = .ok (.ifCond .ge off, 3)) (ht : (pc : Int) + off = (tgt : Int)) (ha : a < 2 ^ 31) (kt : 0 ≤ a → W p l e R s m args below meth c H locs cells slots Q (F0 m tgt ls rest)) (kf : ¬ 0 ≤ a → W p l e R s m args below meth c H locs cells slots Q (F0 m (pc + 3) ls rest)) : W p l e R s m args below meth c H locs cells slots Q (F0 m pc ls (.int (nI a) :: rest)) :=
  have hb2 : 0 < 2 ^ 31 := by decide
  lv_if_ge hx hb hdg ht (fun h => kt ((nI_leI hb2 ha).mp (by rw [nI_0]; exact h))) (fun h => kf (fun q => h (by rw [← nI_0]; exact (nI_leI hb2 ha).mpr q)))
theorem bL_ge (hx : p.tables.exec = Jvm.exec) (hb : c.code = cc) {x y : Int64} {off : Int} {tgt : Nat} (hd0 : decode cc pc = .ok (.lcmp, 1)) (hdg : decode cc (pc + 1) = .ok (.ifCond .ge off, 3)) (ht : ((pc + 1 : Nat) : Int) + off = (tgt : Int)) (kt : y ≤ x → W p l e R s m args below meth c H locs cells slots Q (F0 m tgt ls rest)) (kf : ¬ y ≤ x → W p l e R s m args below meth c H locs cells slots Q (F0 m (pc + 1 + 3) ls rest)) : W p l e R s m args below meth c H locs cells slots Q (F0 m pc ls (.long y :: .long x :: rest)) :=
  W.lcmp hx hb hd0 (lv_if_ge hx hb hdg ht (fun h => kt ((lg_cmp_ge x y).mp h)) (fun h => kf (fun q => h ((lg_cmp_ge x y).mpr q))))
theorem bl_ge (hx : p.tables.exec = Jvm.exec) (hb : c.code = cc) {a b : Nat} {off : Int} {tgt : Nat} (hd0 : decode cc pc = .ok (.lcmp, 1)) (hdg : decode cc (pc + 1) = .ok (.ifCond .ge off, 3)) (ht : ((pc + 1 : Nat) : Int) + off = (tgt : Int)) (ha : a < 2 ^ 63) (hb2 : b < 2 ^ 63) (kt : b ≤ a → W p l e R s m args below meth c H locs cells slots Q (F0 m tgt ls rest)) (kf : ¬ b ≤ a → W p l e R s m args below meth c H locs cells slots Q (F0 m (pc + 1 + 3) ls rest)) : W p l e R s m args below meth c H locs cells slots Q (F0 m pc ls (.long (lN b) :: .long (lN a) :: rest)) :=
  bL_ge hx hb hd0 hdg ht (fun h => kt ((pk_lLE hb2 ha).mp h)) (fun h => kf (fun q => h ((pk_lLE hb2 ha).mpr q)))
theorem bs_ge (hx : p.tables.exec = Jvm.exec) (hb : c.code = cc) {a b : Int} {off : Int} {tgt : Nat} (hdg : decode cc pc = .ok (.if_icmp .ge off, 3)) (ht : (pc : Int) + off = (tgt : Int)) (a1 : -2147483648 ≤ a) (a2 : a < 2147483648) (b1 : -2147483648 ≤ b) (b2 : b < 2147483648) (kt : b ≤ a → W p l e R s m args below meth c H locs cells slots Q (F0 m tgt ls rest)) (kf : ¬ b ≤ a → W p l e R s m args below meth c H locs cells slots Q (F0 m (pc + 3) ls rest)) : W p l e R s m args below meth c H locs cells slots Q (F0 m pc ls (.int (iZ b) :: .int (iZ a) :: rest)) :=
  lv_icmp_ge hx hb hdg ht (fun h => kt ((iZ_le b1 b2 a1 a2).mp h)) (fun h => kf (fun q => h ((iZ_le b1 b2 a1 a2).mpr q)))
theorem by_ge (hx : p.tables.exec = Jvm.exec) (hb : c.code = cc) {a : Int} {off : Int} {tgt : Nat} (hdg : decode cc pc = .ok (.ifCond .ge off, 3)) (ht : (pc : Int) + off = (tgt : Int)) (a1 : -2147483648 ≤ a) (a2 : a < 2147483648) (kt : 0 ≤ a → W p l e R s m args below meth c H locs cells slots Q (F0 m tgt ls rest)) (kf : ¬ 0 ≤ a → W p l e R s m args below meth c H locs cells slots Q (F0 m (pc + 3) ls rest)) : W p l e R s m args below meth c H locs cells slots Q (F0 m pc ls (.int (iZ a) :: rest)) :=
  have b1 : (-2147483648 : Int) ≤ 0 := by decide
  have b2 : (0 : Int) < 2147483648 := by decide
  lv_if_ge hx hb hdg ht (fun h => kt ((iZ_le b1 b2 a1 a2).mp h)) (fun h => kf (fun q => h ((iZ_le b1 b2 a1 a2).mpr q)))
theorem bi_ne (hx : p.tables.exec = Jvm.exec) (hb : c.code = cc) {a b : Nat} {off : Int} {tgt : Nat} (hdg : decode cc pc = .ok (.if_icmp .ne off, 3)) (ht : (pc : Int) + off = (tgt : Int)) (ha : a < 2 ^ 31) (hb2 : b < 2 ^ 31) (kt : a ≠ b → W p l e R s m args below meth c H locs cells slots Q (F0 m tgt ls rest)) (kf : a = b → W p l e R s m args below meth c H locs cells slots Q (F0 m (pc + 3) ls rest)) : W p l e R s m args below meth c H locs cells slots Q (F0 m pc ls (.int (nI b) :: .int (nI a) :: rest)) :=
  lv_icmp_ne hx hb hdg ht (fun h => kt (fun q => h ((nI_eq ha hb2).mpr q))) (fun h => kf ((nI_eq ha hb2).mp h))
theorem bz_ne (hx : p.tables.exec = Jvm.exec) (hb : c.code = cc) {a : Nat} {off : Int} {tgt : Nat} (hdg : decode cc pc = .ok (.ifCond .ne off, 3)) (ht : (pc : Int) + off = (tgt : Int)) (ha : a < 2 ^ 31) (kt : a ≠ 0 → W p l e R s m args below meth c H locs cells slots Q (F0 m tgt ls rest)) (kf : a = 0 → W p l e R s m args below meth c H locs cells slots Q (F0 m (pc + 3) ls rest)) : W p l e R s m args below meth c H locs cells slots Q (F0 m pc ls (.int (nI a) :: rest)) :=
  lv_if_ne hx hb hdg ht (fun h => kt (fun q => h ((nI_zero_eq ha).mpr q))) (fun h => kf ((nI_zero_eq ha).mp h))
theorem bL_ne (hx : p.tables.exec = Jvm.exec) (hb : c.code = cc) {x y : Int64} {off : Int} {tgt : Nat} (hd0 : decode cc pc = .ok (.lcmp, 1)) (hdg : decode cc (pc + 1) = .ok (.ifCond .ne off, 3)) (ht : ((pc + 1 : Nat) : Int) + off = (tgt : Int)) (kt : x ≠ y → W p l e R s m args below meth c H locs cells slots Q (F0 m tgt ls rest)) (kf : x = y → W p l e R s m args below meth c H locs cells slots Q (F0 m (pc + 1 + 3) ls rest)) : W p l e R s m args below meth c H locs cells slots Q (F0 m pc ls (.long y :: .long x :: rest)) :=
  W.lcmp hx hb hd0 (lv_if_ne hx hb hdg ht (fun h => kt (fun q => h ((lg_cmp_eq x y).mpr q))) (fun h => kf ((lg_cmp_eq x y).mp h)))
theorem bl_ne (hx : p.tables.exec = Jvm.exec) (hb : c.code = cc) {a b : Nat} {off : Int} {tgt : Nat} (hd0 : decode cc pc = .ok (.lcmp, 1)) (hdg : decode cc (pc + 1) = .ok (.ifCond .ne off, 3)) (ht : ((pc + 1 : Nat) : Int) + off = (tgt : Int)) (ha : a < 2 ^ 63) (hb2 : b < 2 ^ 63) (kt : a ≠ b → W p l e R s m args below meth c H locs cells slots Q (F0 m tgt ls rest)) (kf : a = b → W p l e R s m args below meth c H locs cells slots Q (F0 m (pc + 1 + 3) ls rest)) : W p l e R s m args below meth c H locs cells slots Q (F0 m pc ls (.long (lN b) :: .long (lN a) :: rest)) :=
  bL_ne hx hb hd0 hdg ht (fun h => kt (fun q => h ((pk_lEQ ha hb2).mpr q))) (fun h => kf ((pk_lEQ ha hb2).mp h))
theorem rn_l (hx : p.tables.exec = Jvm.exec) (hb : c.code = cc) (hK : va_K D vwCl (ty_s cA) s) (hP : va_P D vwCl (wm_W N ad G) H) (k : Nat) (hk : k < N) {n : Nat} {f : Nat → Int64} (hg : G k = .inl (cA 0, n, .inr (.inl f))) {i : Nat} (hi : i < n) (hn : n < 2 ^ 31) (hdg : decode cc pc = .ok (.laload, 1)) (kk : W p l e R s m args below meth c H locs cells slots Q (F0 m (pc + 1) ls (.long (f i) :: rest))) : W p l e R s m args below meth c H locs cells slots Q (F0 m pc ls (.int (nI i) :: .ref (ad k) :: rest)) :=
  ra_l hx hb hK hP k hk hg (vp_in_nI hi hn) hdg (by rw [nI_clamp (by omega)]; exact kk)
theorem rt_l (hx : p.tables.exec = Jvm.exec) (hb : c.code = cc) (hK : va_K D vwCl (ty_s cA) s) (hP : va_P D vwCl (wm_W N ad G) H) (hD : va_D A (wm_W N ad G)) (hS : va_S A H0 H locs) (k : Nat) (hk : k < N) {n : Nat} {f : Nat → Int64} (hg : G k = .inl (cA 0, n, .inr (.inl f))) {i : Nat} {x : Int64} (hi : i < n) (hn : n < 2 ^ 31) (hdg : decode cc pc = .ok (.lastore, 1)) (kk : ∀ (H1 : Heap) (locs1 : List Loc), va_P D vwCl (wm_W N ad (va_up G k (.inl (cA 0, n, .inr (.inl (vp_updL f i x)))))) H1 → va_D A (wm_W N ad (va_up G k (.inl (cA 0, n, .inr (.inl (vp_updL f i x)))))) → va_S A H0 H1 locs1 → W p l e R s m args below meth c H1 locs1 cells slots Q (F0 m (pc + 1) ls rest)) : W p l e R s m args below meth c H locs cells slots Q (F0 m pc ls (.long x :: .int (nI i) :: .ref (ad k) :: rest)) :=
  rs_l hx hb hK hP hD hS k hk hg (vp_in_nI hi hn) hdg (by rw [nI_clamp (by omega)]; exact kk)
theorem rn_i (hx : p.tables.exec = Jvm.exec) (hb : c.code = cc) (hK : va_K D vwCl (ty_s cA) s) (hP : va_P D vwCl (wm_W N ad G) H) (k : Nat) (hk : k < N) {n : Nat} {f : Nat → Int32} (hg : G k = .inl (cA 3, n, .inl f)) {i : Nat} (hi : i < n) (hn : n < 2 ^ 31) (hdg : decode cc pc = .ok (.iaload, 1)) (kk : W p l e R s m args below meth c H locs cells slots Q (F0 m (pc + 1) ls (.int (f i) :: rest))) : W p l e R s m args below meth c H locs cells slots Q (F0 m pc ls (.int (nI i) :: .ref (ad k) :: rest)) :=
  ra_i hx hb hK hP k hk hg (vp_in_nI hi hn) hdg (by rw [nI_clamp (by omega)]; exact kk)
theorem rt_i (hx : p.tables.exec = Jvm.exec) (hb : c.code = cc) (hK : va_K D vwCl (ty_s cA) s) (hP : va_P D vwCl (wm_W N ad G) H) (hD : va_D A (wm_W N ad G)) (hS : va_S A H0 H locs) (k : Nat) (hk : k < N) {n : Nat} {f : Nat → Int32} (hg : G k = .inl (cA 3, n, .inl f)) {i : Nat} {x : Int32} (hi : i < n) (hn : n < 2 ^ 31) (hdg : decode cc pc = .ok (.iastore, 1)) (kk : ∀ (H1 : Heap) (locs1 : List Loc), va_P D vwCl (wm_W N ad (va_up G k (.inl (cA 3, n, .inl (upd f i x))))) H1 → va_D A (wm_W N ad (va_up G k (.inl (cA 3, n, .inl (upd f i x))))) → va_S A H0 H1 locs1 → W p l e R s m args below meth c H1 locs1 cells slots Q (F0 m (pc + 1) ls rest)) : W p l e R s m args below meth c H locs cells slots Q (F0 m pc ls (.int x :: .int (nI i) :: .ref (ad k) :: rest)) :=
  rs_i hx hb hK hP hD hS k hk hg (vp_in_nI hi hn) hdg (by rw [nI_clamp (by omega)]; exact kk)
theorem rn_c (hx : p.tables.exec = Jvm.exec) (hb : c.code = cc) (hK : va_K D vwCl (ty_s cA) s) (hP : va_P D vwCl (wm_W N ad G) H) (k : Nat) (hk : k < N) {n : Nat} {f : Nat → Int32} (hg : G k = .inl (cA 2, n, .inl f)) {i : Nat} (hi : i < n) (hn : n < 2 ^ 31) (hdg : decode cc pc = .ok (.caload, 1)) (kk : W p l e R s m args below meth c H locs cells slots Q (F0 m (pc + 1) ls (.int (f i) :: rest))) : W p l e R s m args below meth c H locs cells slots Q (F0 m pc ls (.int (nI i) :: .ref (ad k) :: rest)) :=
  ra_c hx hb hK hP k hk hg (vp_in_nI hi hn) hdg (by rw [nI_clamp (by omega)]; exact kk)
theorem rt_c (hx : p.tables.exec = Jvm.exec) (hb : c.code = cc) (hK : va_K D vwCl (ty_s cA) s) (hP : va_P D vwCl (wm_W N ad G) H) (hD : va_D A (wm_W N ad G)) (hS : va_S A H0 H locs) (k : Nat) (hk : k < N) {n : Nat} {f : Nat → Int32} (hg : G k = .inl (cA 2, n, .inl f)) {i : Nat} {x : Int32} (hi : i < n) (hn : n < 2 ^ 31) (hdg : decode cc pc = .ok (.castore, 1)) (kk : ∀ (H1 : Heap) (locs1 : List Loc), va_P D vwCl (wm_W N ad (va_up G k (.inl (cA 2, n, .inl (upd f i (vp_nar .char x)))))) H1 → va_D A (wm_W N ad (va_up G k (.inl (cA 2, n, .inl (upd f i (vp_nar .char x)))))) → va_S A H0 H1 locs1 → W p l e R s m args below meth c H1 locs1 cells slots Q (F0 m (pc + 1) ls rest)) : W p l e R s m args below meth c H locs cells slots Q (F0 m pc ls (.int x :: .int (nI i) :: .ref (ad k) :: rest)) :=
  rs_c hx hb hK hP hD hS k hk hg (vp_in_nI hi hn) hdg (by rw [nI_clamp (by omega)]; exact kk)
theorem rn_q1 (hx : p.tables.exec = Jvm.exec) (hb : c.code = cc) (hK : va_K D vwCl (ty_s cA) s) (hP : va_P D vwCl (wm_W N ad G) H) (k : Nat) (hk : k < N) {n : Nat} {f : Nat → Option Nat} (hg : G k = .inl (cA 1, n, .inr (.inr (.inr (.inr f))))) {i : Nat} (hi : i < n) (hn : n < 2 ^ 31) (hdg : decode cc pc = .ok (.aaload, 1)) (kk : W p l e R s m args below meth c H locs cells slots Q (F0 m (pc + 1) ls (va_rf (f i) :: rest))) : W p l e R s m args below meth c H locs cells slots Q (F0 m pc ls (.int (nI i) :: .ref (ad k) :: rest)) :=
  ra_q1 hx hb hK hP k hk hg (vp_in_nI hi hn) hdg (by rw [nI_clamp (by omega)]; exact kk)
theorem rn_q4 (hx : p.tables.exec = Jvm.exec) (hb : c.code = cc) (hK : va_K D vwCl (ty_s cA) s) (hP : va_P D vwCl (wm_W N ad G) H) (k : Nat) (hk : k < N) {n : Nat} {f : Nat → Option Nat} (hg : G k = .inl (cA 4, n, .inr (.inr (.inr (.inr f))))) {i : Nat} (hi : i < n) (hn : n < 2 ^ 31) (hdg : decode cc pc = .ok (.aaload, 1)) (kk : W p l e R s m args below meth c H locs cells slots Q (F0 m (pc + 1) ls (va_rf (f i) :: rest))) : W p l e R s m args below meth c H locs cells slots Q (F0 m pc ls (.int (nI i) :: .ref (ad k) :: rest)) :=
  ra_q4 hx hb hK hP k hk hg (vp_in_nI hi hn) hdg (by rw [nI_clamp (by omega)]; exact kk)
end RW
/-- a Natural's cells, raw: limbs f, size sv, at a and a + 1 -/
def nw_ (cA : Nat → ClassId) (ad : Nat → Nat) (g : Nat → va_E) (a : Nat) (f : Nat → Int64) (sv : Int32) : Nat → va_E := fun j => if j = a then .inr (1, [.ref (ad (a + 1)), .int sv]) else if j = a + 1 then .inl (cA 0, 64, .inr (.inl f)) else g j
theorem nw_o {cA : Nat → ClassId} {ad : Nat → Nat} {g : Nat → va_E} {a : Nat} {f : Nat → Int64} {sv : Int32} : nw_ cA ad g a f sv a = .inr (1, [.ref (ad (a + 1)), .int sv]) := by simp [nw_]
theorem nw_l {cA : Nat → ClassId} {ad : Nat → Nat} {g : Nat → va_E} {a : Nat} {f : Nat → Int64} {sv : Int32} : nw_ cA ad g a f sv (a + 1) = .inl (cA 0, 64, .inr (.inl f)) := by simp [nw_]
theorem nw_ne {cA : Nat → ClassId} {ad : Nat → Nat} {g : Nat → va_E} {a j : Nat} {f : Nat → Int64} {sv : Int32} (h1 : j ≠ a) (h2 : j ≠ a + 1) : nw_ cA ad g a f sv j = g j := by simp [nw_, h1, h2]
theorem nw_so {cA : Nat → ClassId} {ad : Nat → Nat} {g : Nat → va_E} {a : Nat} {f : Nat → Int64} {sv v : Int32} : va_up (nw_ cA ad g a f sv) a (.inr (1, [.ref (ad (a + 1)), .int v])) = nw_ cA ad g a f v := by
  funext j
  simp only [va_up, nw_]
  by_cases h : j = a <;> simp [h]
theorem nw_sl {cA : Nat → ClassId} {ad : Nat → Nat} {g : Nat → va_E} {a : Nat} {f f' : Nat → Int64} {sv : Int32} : va_up (nw_ cA ad g a f sv) (a + 1) (.inl (cA 0, 64, .inr (.inl f'))) = nw_ cA ad g a f' sv := by
  funext j
  simp only [va_up, nw_]
  by_cases h : j = a
  · subst h; simp
  · by_cases h2 : j = a + 1 <;> simp [h, h2]
theorem nw_nw {cA : Nat → ClassId} {ad : Nat → Nat} {g : Nat → va_E} {a : Nat} {f f' : Nat → Int64} {sv sv' : Int32} : nw_ cA ad (nw_ cA ad g a f sv) a f' sv' = nw_ cA ad g a f' sv' := by
  funext j
  simp only [nw_]
  by_cases h : j = a
  · simp [h]
  · by_cases h2 : j = a + 1 <;> simp [h, h2]
/-- the limbs of a number -/
def nd_A (n : Nat) : Nat → Int64 := fun j => lN (nd_d n j)
/-- a Natural at a that holds n -/
def is_N (cA : Nat → ClassId) (ad : Nat → Nat) (g : Nat → va_E) (a n : Nat) : Prop := g a = .inr (1, [.ref (ad (a + 1)), .int (nI (nd_s n))]) ∧ g (a + 1) = .inl (cA 0, 64, .inr (.inl (nd_A n)))
abbrev nN (cA : Nat → ClassId) (ad : Nat → Nat) (g : Nat → va_E) (a n : Nat) : Nat → va_E := nw_ cA ad g a (nd_A n) (nI (nd_s n))
theorem nw_self {cA : Nat → ClassId} {ad : Nat → Nat} {g : Nat → va_E} {a n : Nat} (h : is_N cA ad g a n) : nN cA ad g a n = g := by
  funext j
  by_cases h1 : j = a
  · subst h1; rw [nN, nw_o, h.1]
  · by_cases h2 : j = a + 1
    · subst h2; rw [nN, nw_l, h.2]
    · rw [nN, nw_ne h1 h2]
theorem nN_is {cA : Nat → ClassId} {ad : Nat → Nat} {g : Nat → va_E} {a n : Nat} : is_N cA ad (nN cA ad g a n) a n := ⟨nw_o, nw_l⟩
theorem nI_inc (a k : Nat) : nI a + Int32.ofInt (k : Int) = nI (a + k) := by rw [nI_ic]; exact nI_add a k
theorem nI_dec (a : Nat) : nI (a + 1) + Int32.ofInt (-1) = nI a := pk_m1 a
/-- a number that counts down to -1: t - 1 -/
def dn : Nat → Int32
  | 0 => iZ (-1)
  | t + 1 => nI t
theorem dn_dec (t : Nat) : nI t + Int32.ofInt (-1) = dn t := by
  cases t with
  | zero => rfl
  | succ t => exact pk_m1 t
theorem dn_sub (t : Nat) : nI t - nI 1 = dn t := by
  cases t with
  | zero => rfl
  | succ t => exact pk_sub (Nat.succ_le_succ (Nat.zero_le t))
theorem nI_sub1 (k : Nat) : nI (k + 1) - nI 1 = nI k := pk_sub (Nat.succ_le_succ (Nat.zero_le k))
theorem lN_ne0 {n : Nat} (h0 : 0 < n) (h : n < 2 ^ 63) : ¬ lN n = 0 := by
  intro q
  have := (pk_lEQ (a := n) (b := 0) h (by decide)).mp q
  omega
theorem nd_s64 {n : Nat} (h : n < 1000000 ^ 64) : nd_s n ≤ 64 := nd_s_le 64 n h
theorem nd_A0 : nd_A 0 = fun _ => lN 0 := by funext j; rw [nd_A, nd_d0]
end
section
theorem sb_cpyL {f g : Nat → Int64} {n j : Nat} (h : j < n) : va_cpy f g 0 0 n j = f j := by
  rw [pk_cpy_in (Nat.zero_le _) (by omega)]; congr 1; omega
set_option maxHeartbeats 4000000 in
set_option maxRecDepth 100000 in
/-- isZero: 1 if the number is 0 -/
theorem c_X1_isZero (l : Launch) (D : va_G) (cA : Nat → ClassId) (tT : Nat) (A : Nat → Prop) (N : Nat) (ad : Nat → Nat) (sz : Nat) (g : Nat → va_E) {a x : Nat} (ha1 : a + 1 < N) (ha : is_N cA ad g a x) (hx64 : x < 1000000 ^ 64) : Met l yX1_isZero wsX1_isZero ({ frames := 0, cells := 0, slots := 0, locals := 0 }) (va_Pc [.ref (ad a)] (wd_B D cA tT A N ad sz g)) (va_Qi (fun (r : Int32) (u : Nat → va_E) => r = nI (if x = 0 then 1 else 0) ∧ u = g) (wd_E D cA A N ad) A) 0 0 A := by
  refine Met.ofW (cc := cX1_isZero) (maxL := 1) (ret := (some .boolean)) (by decide) rfl ?_
  intro p e s m args below meth c s₁ B hml hv
  obtain ⟨rfl, hsz, hP, hK, hD, hT⟩ := hv
  have hx := B.exec
  have hb := B.bytes
  have hr := B.returns
  have hts := atoms_spec (ws := wsX1_isZero) B.pre
  have hown : s.vm.findClass RX1 = some m.cls := findClass_of_methodNamed B.named
  have hlocks := B.notSynchronized
  subst hsz
  have hS : va_S A s.heap s.heap [] := va_S.rf
  have in1 : ∀ w ∈ wsX10, w ∈ wsX1_isZero := by decide +kernel
  have hl := lv_entry ([.ref (ad a)]) (n := 1) (Nat.le_of_ble_eq_true rfl)
  rw [lg_entry_eq]
  generalize (lg_sl ([.ref (ad a)]) ++ List.replicate (1 - (lg_sl ([.ref (ad a)])).length) Slot.unset).toArray = ls at hl ⊢
  have hl : lv_has ls 1 [(0, .ref (ad a))] := hl
  have hs64 := nd_s64 hx64
  refine lv_aload_n hx hb dX1_isZero_0 rfl (lv_at hl 0 rfl) ?_
  refine rg_1_size hx hb hts in1 hown hK hP a (by omega) ha.1 (hts _ (by decide +kernel)) dX1_isZero_1 ?_
  refine bz_ne (tgt := 11) hx hb dX1_isZero_4 (by decide) (by omega) (fun q => ?_) (fun q => ?_)
  · refine lv_iconst (v := nI (0)) hx hb dX1_isZero_11 (by decide) ?_
    exact W.zret (v := nI (0)) hx hb hr rfl (fun t ht hW => ⟨⟨nI (0), g, rfl, ⟨by rw [if_neg (fun z => q (nd_s_z.mpr z))], rfl⟩, wd_end hP hK hD ht hW⟩, hS.F ht⟩) hS.2.2 dX1_isZero_12
  · refine lv_iconst (v := nI (1)) hx hb dX1_isZero_7 (by decide) ?_
    refine lv_goto (tgt := 12) hx hb dX1_isZero_8 (by decide) ?_
    exact W.zret (v := nI (1)) hx hb hr rfl (fun t ht hW => ⟨⟨nI (1), g, rfl, ⟨by rw [if_pos (nd_s_z.mp q)], rfl⟩, wd_end hP hK hD ht hW⟩, hS.F ht⟩) hS.2.2 dX1_isZero_12
set_option maxHeartbeats 4000000 in
set_option maxRecDepth 100000 in
theorem lp_X1_clear {p : Program} {l : Launch} {e : Env} {R : Room} {s : State} {m : MethodId} {args : Array Value} {below : List Frame} {meth : Method} {c : Code} {Q : State → Prop} {D : va_G} {cA : Nat → ClassId} {tT : Nat} {A : Nat → Prop} {N : Nat} {ad : Nat → Nat} {g : Nat → va_E} {a x : Nat} (S : CallFix p m c cX1_clear 2 s args wsX1_clear RX1) (hK : va_K D vwCl (ty_s cA) s) (hT : st_T tT A s s.heap) (ha1 : a + 1 < N) (hs64 : nd_s x ≤ 64) (kk : ∀ (H : Heap) (locs : List Loc) (ls : Array Slot), va_P D vwCl (wm_W N ad (nw_ cA ad g a (fun _ => lN 0) (nI (nd_s x)))) H → va_D A (wm_W N ad (nw_ cA ad g a (fun _ => lN 0) (nI (nd_s x)))) → va_S A s.heap H locs → lv_has ls 2 [(1, .int (nI (nd_s x))), (0, .ref (ad a))] → W p l e R s m args below meth c H locs 0 0 Q (F0 m 23 ls [])) :
    ∀ (n i : Nat) (f : Nat → Int64) (H : Heap) (locs : List Loc) (ls : Array Slot), nd_s x - i < n → i ≤ nd_s x → (∀ j, j < i → f j = lN 0) → (∀ j, i ≤ j → f j = nd_A x j) → va_P D vwCl (wm_W N ad (nw_ cA ad g a f (nI (nd_s x)))) H → va_D A (wm_W N ad (nw_ cA ad g a f (nI (nd_s x)))) → va_S A s.heap H locs → lv_has ls 2 [(1, .int (nI (i))), (0, .ref (ad a))] → W p l e R s m args below meth c H locs 0 0 Q (F0 m 2 ls []) := by
  obtain ⟨hx, hb, hml, hown, hts⟩ := S
  have in1 : ∀ w ∈ wsX10, w ∈ wsX1_clear := by decide +kernel
  intro n
  induction n with
  | zero => intro i f H locs ls hn; exact absurd hn (Nat.not_lt_zero _)
  | succ n ih =>
    intro i f H locs ls hn hi h1 h2 hP hD hS hl
    refine lv_iload_n hx hb dX1_clear_2 rfl (lv_at hl 0 rfl) ?_
    refine lv_aload_n hx hb dX1_clear_3 rfl (lv_at hl 1 rfl) ?_
    refine rg_1_size hx hb hts in1 hown hK hP a (by omega) nw_o (hts _ (by decide +kernel)) dX1_clear_4 ?_
    refine bi_ge (tgt := 23) hx hb dX1_clear_7 (by decide) (by omega) (by omega) (fun q => ?_) (fun q => ?_)
    · obtain rfl : i = nd_s x := by omega
      have hf : f = fun _ => lN 0 := by
        funext j
        rcases Nat.lt_or_ge j (nd_s x) with r | r
        · exact h1 j r
        · rw [h2 j r, nd_A, nd_dz (nd_s_lt x) r]
      subst hf
      exact kk H locs ls hP hD hS hl
    · refine lv_aload_n hx hb dX1_clear_10 rfl (lv_at hl 1 rfl) ?_
      refine rg_1_limbs hx hb hts in1 hown hK hP a (by omega) nw_o (hts _ (by decide +kernel)) dX1_clear_11 ?_
      refine lv_iload_n hx hb dX1_clear_14 rfl (lv_at hl 0 rfl) ?_
      refine lv_lconst (v := lN (0)) hx hb dX1_clear_15 rfl ?_
      refine rt_l hx hb hK hP hD hS (a + 1) (by omega) nw_l (by omega) (by decide) dX1_clear_16 (fun H locs hP hD hS => ?_)
      rw [nw_sl] at hP hD
      refine lv_iinc (v := nI (i + 1)) (lv' := [(1, .int (nI (i + 1))), (0, .ref (ad a))]) hx hb dX1_clear_17 hl (k := 0) rfl (nI_inc i 1) (by decide) rfl (fun ls hl => ?_)
      refine lv_goto (tgt := 2) hx hb dX1_clear_20 (by decide) ?_
      refine ih (i + 1) _ H locs ls (by omega) (by omega) (fun j hj => ?_) (fun j hj => ?_) hP hD hS (lv_sub hl [0, 1] rfl)
      · rcases Nat.lt_or_ge j i with r | r
        · rw [pk_uLn (by omega)]; exact h1 j r
        · obtain rfl : j = i := by omega
          exact pk_uLs
      · rw [pk_uLn (by omega)]; exact h2 j (by omega)
set_option maxHeartbeats 4000000 in
set_option maxRecDepth 100000 in
/-- clear: the number becomes 0 -/
theorem c_X1_clear (l : Launch) (D : va_G) (cA : Nat → ClassId) (tT : Nat) (A : Nat → Prop) (N : Nat) (ad : Nat → Nat) (sz : Nat) (g : Nat → va_E) {a x : Nat} (ha1 : a + 1 < N) (ha : is_N cA ad g a x) (hx64 : x < 1000000 ^ 64) : Met l yX1_clear wsX1_clear ({ frames := 0, cells := 0, slots := 0, locals := 0 }) (va_Pc [.ref (ad a)] (wd_B D cA tT A N ad sz g)) (va_Qv (fun (u : Nat → va_E) => u = nN cA ad g a 0) (wd_E D cA A N ad) A) 0 0 A := by
  refine Met.ofW (cc := cX1_clear) (maxL := 2) (ret := none) (by decide) rfl ?_
  intro p e s m args below meth c s₁ B hml hv
  obtain ⟨rfl, hsz, hP, hK, hD, hT⟩ := hv
  have hx := B.exec
  have hb := B.bytes
  have hr := B.returns
  have hts := atoms_spec (ws := wsX1_clear) B.pre
  have hown : s.vm.findClass RX1 = some m.cls := findClass_of_methodNamed B.named
  have hlocks := B.notSynchronized
  subst hsz
  have hS : va_S A s.heap s.heap [] := va_S.rf
  have in1 : ∀ w ∈ wsX10, w ∈ wsX1_clear := by decide +kernel
  have hl := lv_entry ([.ref (ad a)]) (n := 2) (Nat.le_of_ble_eq_true rfl)
  rw [lg_entry_eq]
  generalize (lg_sl ([.ref (ad a)]) ++ List.replicate (2 - (lg_sl ([.ref (ad a)])).length) Slot.unset).toArray = ls at hl ⊢
  have hl : lv_has ls 2 [(0, .ref (ad a))] := hl
  have hs64 := nd_s64 hx64
  rw [← nw_self ha] at hP hD
  refine lv_iconst (v := nI (0)) hx hb dX1_clear_0 (by decide) ?_
  refine lv_istore_n (lv' := [(1, .int (nI (0))), (0, .ref (ad a))]) hx hb dX1_clear_1 rfl hl (by decide) rfl (fun ls hl => ?_)
  refine lp_X1_clear ⟨hx, hb, hml, hown, hts⟩ hK hT ha1 hs64 (fun H locs ls hP hD hS hl => ?_) (nd_s x + 1) 0 _ _ _ ls (by omega) (Nat.zero_le _) (fun j hj => absurd hj (Nat.not_lt_zero _)) (fun j _ => rfl) hP hD hS hl
  refine lv_aload_n hx hb dX1_clear_23 rfl (lv_at hl 1 rfl) ?_
  refine lv_iconst (v := nI (0)) hx hb dX1_clear_24 (by decide) ?_
  refine rp_1_size hx hb hts in1 hown hK hP hD hS a (by omega) nw_o (hts _ (by decide +kernel)) rfl rfl dX1_clear_25 (fun H locs hP hD hS => ?_)
  rw [nw_so] at hP hD
  exact W.vret hx hb hr (fun t ht hW => ⟨⟨_, rfl, by rw [nN, nd_A0, nd_s0], wd_end hP hK hD ht hW⟩, hS.F ht⟩) hS.2.2 dX1_clear_28
set_option maxHeartbeats 4000000 in
set_option maxRecDepth 100000 in
theorem lp_X1_shrink {p : Program} {l : Launch} {e : Env} {R : Room} {s : State} {m : MethodId} {args : Array Value} {below : List Frame} {meth : Method} {c : Code} {Q : State → Prop} {D : va_G} {cA : Nat → ClassId} {tT : Nat} {A : Nat → Prop} {N : Nat} {ad : Nat → Nat} {g : Nat → va_E} {a V : Nat} (S : CallFix p m c cX1_shrink 1 s args wsX1_shrink RX1) (hK : va_K D vwCl (ty_s cA) s) (hT : st_T tT A s s.heap) (ha1 : a + 1 < N) (kk : ∀ (H : Heap) (locs : List Loc) (ls : Array Slot), va_P D vwCl (wm_W N ad (nN cA ad g a V)) H → va_D A (wm_W N ad (nN cA ad g a V)) → va_S A s.heap H locs → lv_has ls 1 [(0, .ref (ad a))] → W p l e R s m args below meth c H locs 0 0 Q (F0 m 36 ls [])) :
    ∀ (k : Nat) (H : Heap) (locs : List Loc) (ls : Array Slot), k ≤ 64 → V < 1000000 ^ k → va_P D vwCl (wm_W N ad (nw_ cA ad g a (nd_A V) (nI k))) H → va_D A (wm_W N ad (nw_ cA ad g a (nd_A V) (nI k))) → va_S A s.heap H locs → lv_has ls 1 [(0, .ref (ad a))] → W p l e R s m args below meth c H locs 0 0 Q (F0 m 0 ls []) := by
  obtain ⟨hx, hb, hml, hown, hts⟩ := S
  have in1 : ∀ w ∈ wsX10, w ∈ wsX1_shrink := by decide +kernel
  intro k
  induction k with
  | zero =>
    intro H locs ls hk hV hP hD hS hl
    refine lv_aload_n hx hb dX1_shrink_0 rfl (lv_at hl 0 rfl) ?_
    refine rg_1_size hx hb hts in1 hown hK hP a (by omega) nw_o (hts _ (by decide +kernel)) dX1_shrink_1 ?_
    refine bz_le (tgt := 36) hx hb dX1_shrink_4 (by decide) (by omega) (fun q => ?_) (fun q => ?_)
    · exact kk H locs ls (by rw [show V = 0 by simpa using hV] at hP ⊢; rw [nN, nd_s0]; exact hP) (wm_D hD) hS hl
    · exact absurd (Nat.le_refl 0) q
  | succ k ih =>
    intro H locs ls hk hV hP hD hS hl
    refine lv_aload_n hx hb dX1_shrink_0 rfl (lv_at hl 0 rfl) ?_
    refine rg_1_size hx hb hts in1 hown hK hP a (by omega) nw_o (hts _ (by decide +kernel)) dX1_shrink_1 ?_
    refine bz_le (tgt := 36) hx hb dX1_shrink_4 (by decide) (by omega) (fun q => ?_) (fun q => ?_)
    · exact absurd q (Nat.not_succ_le_zero k)
    · refine lv_aload_n hx hb dX1_shrink_7 rfl (lv_at hl 0 rfl) ?_
      refine rg_1_limbs hx hb hts in1 hown hK hP a (by omega) nw_o (hts _ (by decide +kernel)) dX1_shrink_8 ?_
      refine lv_aload_n hx hb dX1_shrink_11 rfl (lv_at hl 0 rfl) ?_
      refine rg_1_size hx hb hts in1 hown hK hP a (by omega) nw_o (hts _ (by decide +kernel)) dX1_shrink_12 ?_
      refine lv_iconst (v := nI (1)) hx hb dX1_shrink_15 (by decide) ?_
      refine lv_isub hx hb dX1_shrink_16 ?_
      refine tp_i (y := nI (k)) (nI_sub1 k) ?_
      refine rn_l hx hb hK hP (a + 1) (by omega) nw_l (by omega) (by decide) dX1_shrink_17 ?_
      refine tp_l (y := lN (nd_d V k)) rfl ?_
      refine lv_lconst (v := lN (0)) hx hb dX1_shrink_18 rfl ?_
      refine bl_ne (tgt := 36) hx hb dX1_shrink_19 dX1_shrink_20 (by decide) (by have := nd_lt V k; omega) (by decide) (fun q2 => ?_) (fun q2 => ?_)
      · exact kk H locs ls (by rw [nN, nd_size hV q2]; exact hP) (wm_D hD) hS hl
      · refine lv_aload_n hx hb dX1_shrink_23 rfl (lv_at hl 0 rfl) ?_
        refine lv_dup hx hb dX1_shrink_24 rfl ?_
        refine rg_1_size hx hb hts in1 hown hK hP a (by omega) nw_o (hts _ (by decide +kernel)) dX1_shrink_25 ?_
        refine lv_iconst (v := nI (1)) hx hb dX1_shrink_28 (by decide) ?_
        refine lv_isub hx hb dX1_shrink_29 ?_
        refine tp_i (y := nI (k)) (nI_sub1 k) ?_
        refine rp_1_size hx hb hts in1 hown hK hP hD hS a (by omega) nw_o (hts _ (by decide +kernel)) rfl rfl dX1_shrink_30 (fun H locs hP hD hS => ?_)
        rw [nw_so] at hP hD
        refine lv_goto (tgt := 0) hx hb dX1_shrink_33 (by decide) ?_
        exact ih H locs ls (by omega) (nd_shrink hV q2) hP hD hS hl
set_option maxHeartbeats 4000000 in
set_option maxRecDepth 100000 in
/-- shrink: the size becomes what it is -/
theorem c_X1_shrink (l : Launch) (D : va_G) (cA : Nat → ClassId) (tT : Nat) (A : Nat → Prop) (N : Nat) (ad : Nat → Nat) (sz : Nat) (g : Nat → va_E) {a V k : Nat} (ha1 : a + 1 < N) (hk : k ≤ 64) (hV : V < 1000000 ^ k) : Met l yX1_shrink wsX1_shrink ({ frames := 0, cells := 0, slots := 0, locals := 0 }) (va_Pc [.ref (ad a)] (wd_B D cA tT A N ad sz (nw_ cA ad g a (nd_A V) (nI k)))) (va_Qv (fun (u : Nat → va_E) => u = nN cA ad g a V) (wd_E D cA A N ad) A) 0 0 A := by
  refine Met.ofW (cc := cX1_shrink) (maxL := 1) (ret := none) (by decide) rfl ?_
  intro p e s m args below meth c s₁ B hml hv
  obtain ⟨rfl, hsz, hP, hK, hD, hT⟩ := hv
  have hx := B.exec
  have hb := B.bytes
  have hr := B.returns
  have hts := atoms_spec (ws := wsX1_shrink) B.pre
  have hown : s.vm.findClass RX1 = some m.cls := findClass_of_methodNamed B.named
  have hlocks := B.notSynchronized
  subst hsz
  have hS : va_S A s.heap s.heap [] := va_S.rf
  have in1 : ∀ w ∈ wsX10, w ∈ wsX1_shrink := by decide +kernel
  have hl := lv_entry ([.ref (ad a)]) (n := 1) (Nat.le_of_ble_eq_true rfl)
  rw [lg_entry_eq]
  generalize (lg_sl ([.ref (ad a)]) ++ List.replicate (1 - (lg_sl ([.ref (ad a)])).length) Slot.unset).toArray = ls at hl ⊢
  have hl : lv_has ls 1 [(0, .ref (ad a))] := hl
  refine lp_X1_shrink ⟨hx, hb, hml, hown, hts⟩ hK hT ha1 (fun H locs ls hP hD hS hl => ?_) k _ _ ls hk hV hP hD hS hl
  exact W.vret hx hb hr (fun t ht hW => ⟨⟨_, rfl, rfl, wd_end hP hK hD ht hW⟩, hS.F ht⟩) hS.2.2 dX1_shrink_36
set_option maxHeartbeats 4000000 in
set_option maxRecDepth 100000 in
/-- close: the last carry, and the size -/
theorem c_X1_close (l : Launch) (D : va_G) (cA : Nat → ClassId) (tT : Nat) (A : Nat → Prop) (N : Nat) (ad : Nat → Nat) (sz : Nat) (g : Nat → va_E) {a V k cv : Nat} {f : Nat → Int64} {sv : Int32} (ha1 : a + 1 < N) (hk : k ≤ 64) (hV : V < 1000000 ^ 64) (hc : cv = V / 1000000 ^ k) (hcB : cv < 1000000) (hs : cv = 0 → nd_s V = k) (hf : ∀ j, j < k → f j = nd_A V j) (hz : ∀ j, k ≤ j → f j = lN 0) : Met l yX1_close wsX1_close ({ frames := 0, cells := 0, slots := 0, locals := 0 }) (va_Pc [.ref (ad a), .int (nI (k)), .long (lN (cv))] (wd_B D cA tT A N ad sz (nw_ cA ad g a f sv))) (va_Qv (fun (u : Nat → va_E) => u = nN cA ad g a V) (wd_E D cA A N ad) A) 0 0 A := by
  refine Met.ofW (cc := cX1_close) (maxL := 4) (ret := none) (by decide) rfl ?_
  intro p e s m args below meth c s₁ B hml hv
  obtain ⟨rfl, hsz, hP, hK, hD, hT⟩ := hv
  have hx := B.exec
  have hb := B.bytes
  have hr := B.returns
  have hts := atoms_spec (ws := wsX1_close) B.pre
  have hown : s.vm.findClass RX1 = some m.cls := findClass_of_methodNamed B.named
  have hlocks := B.notSynchronized
  subst hsz
  have hS : va_S A s.heap s.heap [] := va_S.rf
  have in1 : ∀ w ∈ wsX10, w ∈ wsX1_close := by decide +kernel
  have hl := lv_entry ([.ref (ad a), .int (nI (k)), .long (lN (cv))]) (n := 4) (Nat.le_of_ble_eq_true rfl)
  rw [lg_entry_eq]
  generalize (lg_sl ([.ref (ad a), .int (nI (k)), .long (lN (cv))]) ++ List.replicate (4 - (lg_sl ([.ref (ad a), .int (nI (k)), .long (lN (cv))])).length) Slot.unset).toArray = ls at hl ⊢
  have hl : lv_has ls 4 [(0, .ref (ad a)), (1, .int (nI (k))), (2, .long (lN (cv)))] := hl
  refine lv_aload_n hx hb dX1_close_0 rfl (lv_at hl 0 rfl) ?_
  refine lv_iload_n hx hb dX1_close_1 rfl (lv_at hl 1 rfl) ?_
  refine rp_1_size hx hb hts in1 hown hK hP hD hS a (by omega) nw_o (hts _ (by decide +kernel)) rfl rfl dX1_close_2 (fun H locs hP hD hS => ?_)
  rw [nw_so] at hP hD
  refine lv_lload_n hx hb dX1_close_5 rfl (lv_at hl 2 rfl) ?_
  refine lv_lconst (v := lN (0)) hx hb dX1_close_6 rfl ?_
  refine bl_eq (tgt := 31) hx hb dX1_close_7 dX1_close_8 (by decide) (by omega) (by decide) (fun q => ?_) (fun q => ?_)
  · have hfe : f = nd_A V := by
      funext j
      rcases Nat.lt_or_ge j k with r | r
      · exact hf j r
      · rw [hz j r, nd_A, nd_dz (n := V) (k := k) (by rw [← hs q]; exact nd_s_lt V) r]
    subst hfe
    exact W.vret hx hb hr (fun t ht hW => ⟨⟨_, rfl, by rw [nN, hs q], wd_end hP hK hD ht hW⟩, hS.F ht⟩) hS.2.2 dX1_close_31
  · refine lv_iload_n hx hb dX1_close_11 rfl (lv_at hl 1 rfl) ?_
    refine lv_bipush (v := nI (64)) hx hb dX1_close_12 (by decide) ?_
    refine bi_ge (tgt := 31) hx hb dX1_close_14 (by decide) (by omega) (by omega) (fun q2 => ?_) (fun q2 => ?_)
    · exact absurd (nd_qz hV q2) (by rw [← hc]; exact q)
    · refine lv_aload_n hx hb dX1_close_17 rfl (lv_at hl 0 rfl) ?_
      refine rg_1_limbs hx hb hts in1 hown hK hP a (by omega) nw_o (hts _ (by decide +kernel)) dX1_close_18 ?_
      refine lv_iload_n hx hb dX1_close_21 rfl (lv_at hl 1 rfl) ?_
      refine lv_lload_n hx hb dX1_close_22 rfl (lv_at hl 2 rfl) ?_
      refine rt_l hx hb hK hP hD hS (a + 1) (by omega) nw_l (by omega) (by decide) dX1_close_23 (fun H locs hP hD hS => ?_)
      rw [nw_sl] at hP hD
      refine lv_aload_n hx hb dX1_close_24 rfl (lv_at hl 0 rfl) ?_
      refine lv_iload_n hx hb dX1_close_25 rfl (lv_at hl 1 rfl) ?_
      refine lv_iconst (v := nI (1)) hx hb dX1_close_26 (by decide) ?_
      refine lv_iadd hx hb dX1_close_27 ?_
      refine tp_i (y := nI (k + 1)) (nI_add _ _) ?_
      refine rp_1_size hx hb hts in1 hown hK hP hD hS a (by omega) nw_o (hts _ (by decide +kernel)) rfl rfl dX1_close_28 (fun H locs hP hD hS => ?_)
      rw [nw_so] at hP hD
      have hVk : V < 1000000 ^ (k + 1) := by
        have e : V / 1000000 ^ k < 1000000 := by rw [← hc]; exact hcB
        rw [Nat.div_lt_iff_lt_mul (Nat.pow_pos (by decide)), Nat.mul_comm] at e
        rw [Nat.pow_succ]; exact e
      have hdk : nd_d V k = cv := by rw [nd_d, ← hc, Nat.mod_eq_of_lt hcB]
      have hsz : nd_s V = k + 1 := nd_size hVk (by rw [hdk]; exact q)
      have hfe : vp_updL f k (lN cv) = nd_A V := by
        funext j
        rcases Nat.lt_trichotomy j k with r | r | r
        · rw [pk_uLn (by omega)]; exact hf j r
        · subst r; rw [pk_uLs, nd_A, hdk]
        · rw [pk_uLn (by omega), hz j (by omega), nd_A, nd_dz hVk r]
      rw [hfe] at hP hD
      exact W.vret hx hb hr (fun t ht hW => ⟨⟨_, rfl, by rw [nN, hsz], wd_end hP hK hD ht hW⟩, hS.F ht⟩) hS.2.2 dX1_close_31
set_option maxHeartbeats 4000000 in
set_option maxRecDepth 100000 in
/-- become: a copy -/
theorem c_X1_become (l : Launch) (D : va_G) (cA : Nat → ClassId) (tT : Nat) (A : Nat → Prop) (N : Nat) (ad : Nat → Nat) (sz : Nat) (g : Nat → va_E) {a b x y : Nat} (ha1 : a + 1 < N) (hb1 : b + 1 < N) (ha : is_N cA ad g a x) (hb0 : is_N cA ad g b y) (hx64 : x < 1000000 ^ 64) (hy64 : y < 1000000 ^ 64) (n1 : a ≠ b) (n2 : a ≠ b + 1) (n3 : a + 1 ≠ b) : Met l yX1_become wsX1_become ({ frames := 1, cells := 0, slots := 0, locals := 18 }) (va_Pc [.ref (ad a), .ref (ad b)] (wd_B D cA tT A N ad sz g)) (va_Qv (fun (u : Nat → va_E) => u = nN cA ad g a y) (wd_E D cA A N ad) A) 0 0 A := by
  refine Met.ofW (cc := cX1_become) (maxL := 2) (ret := none) (by decide) rfl ?_
  intro p e s m args below meth c s₁ B hml hv
  obtain ⟨rfl, hsz, hP, hK, hD, hT⟩ := hv
  have hx := B.exec
  have hb := B.bytes
  have hr := B.returns
  have hts := atoms_spec (ws := wsX1_become) B.pre
  have hown : s.vm.findClass RX1 = some m.cls := findClass_of_methodNamed B.named
  have hlocks := B.notSynchronized
  subst hsz
  have hS : va_S A s.heap s.heap [] := va_S.rf
  have in1 : ∀ w ∈ wsX10, w ∈ wsX1_become := by decide +kernel
  have hl := lv_entry ([.ref (ad a), .ref (ad b)]) (n := 2) (Nat.le_of_ble_eq_true rfl)
  rw [lg_entry_eq]
  generalize (lg_sl ([.ref (ad a), .ref (ad b)]) ++ List.replicate (2 - (lg_sl ([.ref (ad a), .ref (ad b)])).length) Slot.unset).toArray = ls at hl ⊢
  have hl : lv_has ls 2 [(0, .ref (ad a)), (1, .ref (ad b))] := hl
  have hb9 := hb
  rw [← nw_self ha] at hP hD
  refine lv_aload_n hx hb dX1_become_0 rfl (lv_at hl 1 rfl) ?_
  refine rg_1_limbs hx hb hts in1 hown hK hP b (by omega) ((nw_ne (by omega) (by omega)).trans hb0.1) (hts _ (by decide +kernel)) dX1_become_1 ?_
  refine lv_iconst (v := nI (0)) hx hb dX1_become_4 (by decide) ?_
  refine lv_aload_n hx hb dX1_become_5 rfl (lv_at hl 0 rfl) ?_
  refine rg_1_limbs hx hb hts in1 hown hK hP a (by omega) nw_o (hts _ (by decide +kernel)) dX1_become_6 ?_
  refine lv_iconst (v := nI (0)) hx hb dX1_become_9 (by decide) ?_
  refine lv_bipush (v := nI (64)) hx hb dX1_become_10 (by decide) ?_
  refine va_copyl hx hb (by rw [hml]; exact hl.1.symm) hown (hts _ (by decide +kernel)) (hts _ (by decide +kernel)) (hts _ (by decide +kernel)) (hts _ (by decide +kernel)) hK hP hD hS (b + 1) (a + 1) 0 0 (ty := .long) (wm_at (by omega) ((nw_ne (by omega) (by omega)).trans hb0.2)) (wm_at (by omega) nw_l) rfl rfl rfl (by decide) (by decide) (by decide) (by decide) (by decide) (fun _ _ => rfl) (Nat.le_of_ble_eq_true rfl) (Nat.le_of_ble_eq_true rfl) dX1_become_12 (fun H locs hP hD hS => ?_)
  rw [wm_set, nw_sl] at hP hD
  have hfe : va_cpy (nd_A y) (nd_A x) (nI 0).toNatClampNeg (nI 0).toNatClampNeg (nI 64).toNatClampNeg = nd_A y := by
    funext j
    rw [nI_clamp (n := 0) (by decide), nI_clamp (n := 64) (by decide)]
    rcases Nat.lt_or_ge j 64 with r | r
    · rw [sb_cpyL r]
    · rw [pk_cpy_out (Or.inr (by omega)), nd_A, nd_A, nd_dz hx64 r, nd_dz hy64 r]
  rw [hfe] at hP hD
  refine lv_aload_n hx hb dX1_become_15 rfl (lv_at hl 0 rfl) ?_
  refine lv_aload_n hx hb dX1_become_16 rfl (lv_at hl 1 rfl) ?_
  refine rg_1_size hx hb hts in1 hown hK hP b (by omega) ((nw_ne (by omega) (by omega)).trans hb0.1) (hts _ (by decide +kernel)) dX1_become_17 ?_
  refine rp_1_size hx hb hts in1 hown hK hP hD hS a (by omega) nw_o (hts _ (by decide +kernel)) rfl rfl dX1_become_20 (fun H locs hP hD hS => ?_)
  rw [nw_so] at hP hD
  exact W.vret hx hb hr (fun t ht hW => ⟨⟨_, rfl, rfl, wd_end hP hK hD ht hW⟩, hS.F ht⟩) hS.2.2 dX1_become_23
end
section
theorem nd_p_eq {x k : Nat} (h1 : x < 10 ^ (k + 1)) (h2 : x / 10 ^ k % 10 ≠ 0) : nd_p x = k + 1 := by
  have a1 : nd_p x ≤ k + 1 := (nd_p_le (by omega)).mpr h1
  rcases Nat.eq_zero_or_pos k with r | r
  · subst r; have := nd_p_pos x; omega
  · have : k < nd_p x := (nd_p_ge r).mpr (by
      rcases Nat.lt_or_ge x (10 ^ k) with q | q
      · rw [Nat.div_eq_of_lt q] at h2; exact absurd rfl h2
      · exact q)
    omega
theorem nd_p_dn {x k : Nat} (h1 : x < 10 ^ (k + 1)) (h2 : x / 10 ^ k % 10 = 0) : x < 10 ^ k := by
  have h3 : x / 10 ^ k < 10 := by
    rw [Nat.div_lt_iff_lt_mul (Nat.pow_pos (by decide)), Nat.mul_comm, ← Nat.pow_succ]; exact h1
  rcases Nat.lt_or_ge x (10 ^ k) with q | q
  · exact q
  · have : 1 ≤ x / 10 ^ k := by
      rw [Nat.le_div_iff_mul_le (Nat.pow_pos (by decide))]; omega
    omega
theorem nd_s10 (x : Nat) : x < 10 ^ (6 * nd_s x) := by rw [← nd_e6]; exact nd_s_lt x
theorem nd_f0 {x P : Nat} (h : ¬ P / 6 < nd_s x) : x / 10 ^ P % 10 = 0 := by
  rw [Nat.div_eq_of_lt (Nat.lt_of_lt_of_le (nd_s10 x) (Nat.pow_le_pow_right (by decide) (by omega)))]
theorem nd_t6 (P : Nat) : 0 < 10 ^ (P % 6) ∧ 10 ^ (P % 6) < 1000000 := by
  have h : P % 6 < 6 := Nat.mod_lt _ (by decide)
  refine ⟨Nat.pow_pos (by decide), ?_⟩
  rcases (show P % 6 = 0 ∨ P % 6 = 1 ∨ P % 6 = 2 ∨ P % 6 = 3 ∨ P % 6 = 4 ∨ P % 6 = 5 by omega) with r | r | r | r | r | r <;> rw [r] <;> decide
theorem nd_fP (x P : Nat) : nd_d x (P / 6) / 10 ^ (P % 6) % 10 = x / 10 ^ P % 10 := by
  rw [nd_fig x (P / 6) (P % 6) (Nat.mod_lt _ (by decide)), show 6 * (P / 6) + P % 6 = P by omega]
theorem mx_1 (k : Nat) (h : k < 2 ^ 31) : (if nI k < nI 1 then nI 1 else nI k) = nI (if k < 1 then 1 else k) := by
  by_cases q : k < 1
  · rw [if_pos q, if_pos (nI_lt q (by decide))]
  · rw [if_neg q, if_neg (nI_nlt (by omega) h)]
set_option maxHeartbeats 4000000 in
set_option maxRecDepth 100000 in
/-- figure: the digit at a place -/
theorem c_X1_figure (l : Launch) (D : va_G) (cA : Nat → ClassId) (tT : Nat) (A : Nat → Prop) (N : Nat) (ad : Nat → Nat) (sz : Nat) (g : Nat → va_E) {a x P : Nat} (ha1 : a + 1 < N) (ha : is_N cA ad g a x) (hx64 : x < 1000000 ^ 64) (hP31 : P < 2 ^ 31) : Met l yX1_figure wsX1_figure ({ frames := 0, cells := 0, slots := 0, locals := 0 }) (va_Pc [.ref (ad a), .int (nI (P))] (wd_B D cA tT A N ad sz g)) (va_Qi (fun (r : Int32) (u : Nat → va_E) => r = nI (x / 10 ^ P % 10) ∧ u = g) (wd_E D cA A N ad) A) 0 0 A := by
  refine Met.ofW (cc := cX1_figure) (maxL := 3) (ret := (some .int)) (by decide) rfl ?_
  intro p e s m args below meth c s₁ B hml hv
  obtain ⟨rfl, hsz, hP, hK, hD, hT⟩ := hv
  have hx := B.exec
  have hb := B.bytes
  have hr := B.returns
  have hts := atoms_spec (ws := wsX1_figure) B.pre
  have hown : s.vm.findClass RX1 = some m.cls := findClass_of_methodNamed B.named
  have hlocks := B.notSynchronized
  subst hsz
  have hS : va_S A s.heap s.heap [] := va_S.rf
  have in1 : ∀ w ∈ wsX10, w ∈ wsX1_figure := by decide +kernel
  have hl := lv_entry ([.ref (ad a), .int (nI (P))]) (n := 3) (Nat.le_of_ble_eq_true rfl)
  rw [lg_entry_eq]
  generalize (lg_sl ([.ref (ad a), .int (nI (P))]) ++ List.replicate (3 - (lg_sl ([.ref (ad a), .int (nI (P))])).length) Slot.unset).toArray = ls at hl ⊢
  have hl : lv_has ls 3 [(0, .ref (ad a)), (1, .int (nI (P)))] := hl
  have hs64 := nd_s64 hx64
  have ht6 := nd_t6 P
  refine lv_iload_n hx hb dX1_figure_0 rfl (lv_at hl 1 rfl) ?_
  refine lv_bipush (v := nI (6)) hx hb dX1_figure_1 (by decide) ?_
  refine lv_idiv hx hb dX1_figure_3 (nI_ne0 (by omega) (by omega)) ?_
  refine tp_i (y := nI (P / 6)) (pk_div (by omega) (by omega) (by omega)) ?_
  refine lv_istore_n (lv' := [(2, .int (nI (P / 6))), (0, .ref (ad a)), (1, .int (nI (P)))]) hx hb dX1_figure_4 rfl hl (by decide) rfl (fun ls hl => ?_)
  refine lv_iload_n hx hb dX1_figure_5 rfl (lv_at hl 2 rfl) ?_
  refine bz_lt (tgt := 17) hx hb dX1_figure_6 (by decide) (by omega) (fun q => ?_) (fun q => ?_)
  · exact absurd q (Nat.not_lt_zero _)
  · refine lv_iload_n hx hb dX1_figure_9 rfl (lv_at hl 0 rfl) ?_
    refine lv_aload_n hx hb dX1_figure_10 rfl (lv_at hl 1 rfl) ?_
    refine rg_1_size hx hb hts in1 hown hK hP a (by omega) ha.1 (hts _ (by decide +kernel)) dX1_figure_11 ?_
    refine bi_lt (tgt := 19) hx hb dX1_figure_14 (by decide) (by omega) (by omega) (fun q2 => ?_) (fun q2 => ?_)
    · have hd := nd_lt x (P / 6)
      have hdq : nd_d x (P / 6) / 10 ^ (P % 6) < 1000000 := Nat.lt_of_le_of_lt (Nat.div_le_self _ _) hd
      refine lv_aload_n hx hb dX1_figure_19 rfl (lv_at hl 1 rfl) ?_
      refine rg_1_limbs hx hb hts in1 hown hK hP a (by omega) ha.1 (hts _ (by decide +kernel)) dX1_figure_20 ?_
      refine lv_iload_n hx hb dX1_figure_23 rfl (lv_at hl 0 rfl) ?_
      refine rn_l hx hb hK hP (a + 1) (by omega) ha.2 (by omega) (by decide) dX1_figure_24 ?_
      refine tp_l (y := lN (nd_d x (P / 6))) rfl ?_
      refine va_gets hx hb hT.1 hS hown (hts _ (by decide +kernel)) (fun _ h => h) dX1_figure_25 ?_
      refine lv_iload_n hx hb dX1_figure_28 rfl (lv_at hl 2 rfl) ?_
      refine lv_bipush (v := nI (6)) hx hb dX1_figure_29 (by decide) ?_
      refine lv_irem hx hb dX1_figure_31 (nI_ne0 (by omega) (by omega)) ?_
      refine tp_i (y := nI (P % 6)) (pk_rem (by omega) (by omega) (by omega)) ?_
      refine va_tl hx hb hT.2 hS (vp_in_nI (n := P % 6) (by omega) (by decide)) (v := .long (lN (10 ^ (P % 6)))) (by rw [nI_clamp (by omega)]) dX1_figure_32 ?_
      refine lv_ldiv hx hb dX1_figure_33 (lN_ne0 (by omega) (by omega)) ?_
      refine tp_l (y := lN ((nd_d x (P / 6)) / (10 ^ (P % 6)))) (pk_lDiv (by omega) (by omega) (by omega)) ?_
      refine lv_ldc2 (v := lN (10)) hx hb hown (hts _ (by decide +kernel)) dX1_figure_34 ?_
      refine lv_lrem hx hb dX1_figure_37 (lN_ne0 (by omega) (by omega)) ?_
      refine tp_l (y := lN (((nd_d x (P / 6)) / (10 ^ (P % 6))) % 10)) (pk_lRem (by omega) (by omega) (by omega)) ?_
      refine lv_l2i (v := nI (((nd_d x (P / 6)) / (10 ^ (P % 6))) % 10)) hx hb dX1_figure_38 (lN_i _) ?_
      exact W.iret (v := nI (((nd_d x (P / 6)) / (10 ^ (P % 6))) % 10)) hx hb hr (fun t ht hW => ⟨⟨nI (((nd_d x (P / 6)) / (10 ^ (P % 6))) % 10), g, rfl, ⟨by rw [nd_fP], rfl⟩, wd_end hP hK hD ht hW⟩, hS.F ht⟩) hS.2.2 dX1_figure_39
    · refine lv_iconst (v := nI (0)) hx hb dX1_figure_17 (by decide) ?_
      exact W.iret (v := nI (0)) hx hb hr (fun t ht hW => ⟨⟨nI (0), g, rfl, ⟨by rw [nd_f0 q2], rfl⟩, wd_end hP hK hD ht hW⟩, hS.F ht⟩) hS.2.2 dX1_figure_18
set_option maxHeartbeats 4000000 in
set_option maxRecDepth 100000 in
theorem lp_X1_precision {p : Program} {l : Launch} {e : Env} {R : Room} {s : State} {m : MethodId} {args : Array Value} {below : List Frame} {meth : Method} {c : Code} {Q : State → Prop} {D : va_G} {cA : Nat → ClassId} {tT : Nat} {A : Nat → Prop} {N : Nat} {ad : Nat → Nat} {g : Nat → va_E} {a x : Nat} (S : CallFix p m c cX1_precision 2 s args wsX1_precision RX1) (hK : va_K D vwCl (ty_s cA) s) (hT : st_T tT A s s.heap) (hRf : 1 ≤ R.frames) (hRl : 22 ≤ R.locals) (ha1 : a + 1 < N) (ha : is_N cA ad g a x) (hx64 : x < 1000000 ^ 64) (kk : ∀ (k : Nat) (H : Heap) (locs : List Loc) (ls : Array Slot), k < 2 ^ 31 → (if k < 1 then 1 else k) = nd_p x → va_P D vwCl (wm_W N ad (g)) H → va_D A (wm_W N ad (g)) → va_S A s.heap H locs → lv_has ls 2 [(1, .int (nI k)), (0, .ref (ad a))] → W p l e R s m args below meth c H locs 0 0 Q (F0 m 29 ls [])) :
    ∀ (k : Nat) (H : Heap) (locs : List Loc) (ls : Array Slot), k < 1000 → x < 10 ^ k → va_P D vwCl (wm_W N ad (g)) H → va_D A (wm_W N ad (g)) → va_S A s.heap H locs → lv_has ls 2 [(1, .int (nI k)), (0, .ref (ad a))] → W p l e R s m args below meth c H locs 0 0 Q (F0 m 8 ls []) := by
  obtain ⟨hx, hb, hml, hown, hts⟩ := S
  intro k
  induction k with
  | zero =>
    intro H locs ls hk hV hP hD hS hl
    refine lv_iload_n hx hb dX1_precision_8 rfl (lv_at hl 0 rfl) ?_
    refine lv_iconst (v := nI (1)) hx hb dX1_precision_9 (by decide) ?_
    refine bi_le (tgt := 29) hx hb dX1_precision_10 (by decide) (by omega) (by omega) (fun q => ?_) (fun q => ?_)
    · exact kk 0 H locs ls (by decide) (by rw [show x = 0 by simpa using hV, nd_p1 (by decide)]; rfl) hP hD hS hl
    · exact absurd (Nat.zero_le 1) q
  | succ k ih =>
    intro H locs ls hk hV hP hD hS hl
    refine lv_iload_n hx hb dX1_precision_8 rfl (lv_at hl 0 rfl) ?_
    refine lv_iconst (v := nI (1)) hx hb dX1_precision_9 (by decide) ?_
    refine bi_le (tgt := 29) hx hb dX1_precision_10 (by decide) (by omega) (by omega) (fun q => ?_) (fun q => ?_)
    · obtain rfl : k = 0 := by omega
      exact kk 1 H locs ls (by decide) (by rw [nd_p1 (by simpa using hV)]; rfl) hP hD hS hl
    · refine lv_aload_n hx hb dX1_precision_13 rfl (lv_at hl 1 rfl) ?_
      refine lv_iload_n hx hb dX1_precision_14 rfl (lv_at hl 0 rfl) ?_
      refine lv_iconst (v := nI (1)) hx hb dX1_precision_15 (by decide) ?_
      refine lv_isub hx hb dX1_precision_16 ?_
      refine tp_i (y := nI (k)) (nI_sub1 k) ?_
      refine va_calli (va_runV (As := [.int (nI (k))]) (rest := []) ⟨hx, hb, hml, hown, hts⟩ (c_X1_figure l D cA tT A N ad _ _ (a := a) (x := x) (P := k) ha1 ha hx64 (by omega)) (cwV 1 hts gX1_precision_X1_figure rfl rfl rfl (by decide +kernel) ⟨hRf, hRl⟩) (wd_preV (k := a) hP hK hD hT hS (by omega) ha.1 rfl) rfl rfl hl.1 rfl (lv_room (Nat.le_of_ble_eq_true rfl)) dX1_precision_17 ⟨Nat.zero_le _, Nat.zero_le _⟩) hS id_2 id_1 (fun r_ u t H locs ht hvm hw hB hz1 hk1 hS => ?_)
      obtain ⟨hP, hD⟩ := wd_back ht hB
      clear ht hvm hB hz1 hk1
      obtain ⟨hr_, hu_⟩ := hw
      subst hr_
      rw [hu_] at hP hD
      clear hu_
      refine bz_ne (tgt := 29) hx hb dX1_precision_20 (by decide) (by omega) (fun q2 => ?_) (fun q2 => ?_)
      · exact kk (k + 1) H locs ls (by omega) (by rw [nd_p_eq hV q2, if_neg (by omega)]) hP hD hS hl
      · refine lv_iinc (v := nI (k)) (lv' := [(1, .int (nI (k))), (0, .ref (ad a))]) hx hb dX1_precision_23 hl (k := 0) rfl (nI_dec k) (by decide) rfl (fun ls hl => ?_)
        refine lv_goto (tgt := 8) hx hb dX1_precision_26 (by decide) ?_
        exact ih H locs ls (by omega) (nd_p_dn hV q2) hP hD hS hl
set_option maxHeartbeats 4000000 in
set_option maxRecDepth 100000 in
/-- precision: how many digits -/
theorem c_X1_precision (l : Launch) (D : va_G) (cA : Nat → ClassId) (tT : Nat) (A : Nat → Prop) (N : Nat) (ad : Nat → Nat) (sz : Nat) (g : Nat → va_E) {a x : Nat} (ha1 : a + 1 < N) (ha : is_N cA ad g a x) (hx64 : x < 1000000 ^ 64) : Met l yX1_precision wsX1_precision ({ frames := 1, cells := 0, slots := 0, locals := 22 }) (va_Pc [.ref (ad a)] (wd_B D cA tT A N ad sz g)) (va_Qi (fun (r : Int32) (u : Nat → va_E) => r = nI (nd_p x) ∧ u = g) (wd_E D cA A N ad) A) 0 0 A := by
  refine Met.ofW (cc := cX1_precision) (maxL := 2) (ret := (some .int)) (by decide) rfl ?_
  intro p e s m args below meth c s₁ B hml hv
  obtain ⟨rfl, hsz, hP, hK, hD, hT⟩ := hv
  have hx := B.exec
  have hb := B.bytes
  have hr := B.returns
  have hts := atoms_spec (ws := wsX1_precision) B.pre
  have hown : s.vm.findClass RX1 = some m.cls := findClass_of_methodNamed B.named
  have hlocks := B.notSynchronized
  subst hsz
  have hS : va_S A s.heap s.heap [] := va_S.rf
  have in1 : ∀ w ∈ wsX10, w ∈ wsX1_precision := by decide +kernel
  have hl := lv_entry ([.ref (ad a)]) (n := 2) (Nat.le_of_ble_eq_true rfl)
  rw [lg_entry_eq]
  generalize (lg_sl ([.ref (ad a)]) ++ List.replicate (2 - (lg_sl ([.ref (ad a)])).length) Slot.unset).toArray = ls at hl ⊢
  have hl : lv_has ls 2 [(0, .ref (ad a))] := hl
  have hs64 := nd_s64 hx64
  refine lv_aload_n hx hb dX1_precision_0 rfl (lv_at hl 0 rfl) ?_
  refine rg_1_size hx hb hts in1 hown hK hP a (by omega) ha.1 (hts _ (by decide +kernel)) dX1_precision_1 ?_
  refine lv_bipush (v := nI (6)) hx hb dX1_precision_4 (by decide) ?_
  refine lv_imul hx hb dX1_precision_6 ?_
  refine tp_i (y := nI ((nd_s x) * 6)) (pk_mul _ _) ?_
  refine lv_istore_n (lv' := [(1, .int (nI ((nd_s x) * 6))), (0, .ref (ad a))]) hx hb dX1_precision_7 rfl hl (by decide) rfl (fun ls hl => ?_)
  refine lp_X1_precision ⟨hx, hb, hml, hown, hts⟩ hK hT (Nat.le_of_ble_eq_true rfl) (Nat.le_of_ble_eq_true rfl) ha1 ha hx64 (fun k H locs ls hk hkp hP hD hS hl => ?_) (nd_s x * 6) _ _ ls (by omega) (by rw [Nat.mul_comm]; exact nd_s10 x) hP hD hS hl
  refine lv_iload_n hx hb dX1_precision_29 rfl (lv_at hl 0 rfl) ?_
  refine lv_iconst (v := nI (1)) hx hb dX1_precision_30 (by decide) ?_
  refine va_mmax hx hb (by rw [hml]; exact hl.1.symm) hown (hts _ (by decide +kernel)) (hts _ (by decide +kernel)) (hts _ (by decide +kernel)) (hts _ (by decide +kernel)) (Nat.le_of_ble_eq_true rfl) (Nat.le_of_ble_eq_true rfl) (Nat.zero_le _) (Nat.zero_le _) dX1_precision_31 ?_
  refine tp_i (y := nI (nd_p x)) ((mx_1 k hk).trans (by rw [hkp])) ?_
  exact W.iret (v := nI (nd_p x)) hx hb hr (fun t ht hW => ⟨⟨nI (nd_p x), g, rfl, ⟨rfl, rfl⟩, wd_end hP hK hD ht hW⟩, hS.F ht⟩) hS.2.2 dX1_precision_34
/-- the zeros at the end of x, of at most k places -/
def nd_z (x : Nat) : Nat → Nat → Nat
  | 0, z => z
  | n + 1, z => if x / 10 ^ z % 10 = 0 then nd_z x n (z + 1) else z
set_option maxHeartbeats 4000000 in
set_option maxRecDepth 100000 in
theorem lp_X1_zerosAtEnd {p : Program} {l : Launch} {e : Env} {R : Room} {s : State} {m : MethodId} {args : Array Value} {below : List Frame} {meth : Method} {c : Code} {Q : State → Prop} {D : va_G} {cA : Nat → ClassId} {tT : Nat} {A : Nat → Prop} {N : Nat} {ad : Nat → Nat} {g : Nat → va_E} {a x K : Nat} (S : CallFix p m c cX1_zerosAtEnd 3 s args wsX1_zerosAtEnd RX1) (hK : va_K D vwCl (ty_s cA) s) (hT : st_T tT A s s.heap) (hRf : 1 ≤ R.frames) (hRl : 22 ≤ R.locals) (ha1 : a + 1 < N) (ha : is_N cA ad g a x) (hx64 : x < 1000000 ^ 64) (hK9 : K < 1000) (kk : ∀ (z : Nat) (H : Heap) (locs : List Loc) (ls : Array Slot), z = nd_z x K 0 → va_P D vwCl (wm_W N ad (g)) H → va_D A (wm_W N ad (g)) → va_S A s.heap H locs → lv_has ls 3 [(2, .int (nI z)), (1, .int (nI K)), (0, .ref (ad a))] → W p l e R s m args below meth c H locs 0 0 Q (F0 m 29 ls [])) :
    ∀ (n z : Nat) (H : Heap) (locs : List Loc) (ls : Array Slot), z + n = K → nd_z x n z = nd_z x K 0 → va_P D vwCl (wm_W N ad (g)) H → va_D A (wm_W N ad (g)) → va_S A s.heap H locs → lv_has ls 3 [(2, .int (nI z)), (1, .int (nI K)), (0, .ref (ad a))] → W p l e R s m args below meth c H locs 0 0 Q (F0 m 10 ls []) := by
  obtain ⟨hx, hb, hml, hown, hts⟩ := S
  intro n
  induction n with
  | zero =>
    intro z H locs ls hk hV hP hD hS hl
    refine lv_iload_n hx hb dX1_zerosAtEnd_10 rfl (lv_at hl 0 rfl) ?_
    refine lv_iload_n hx hb dX1_zerosAtEnd_11 rfl (lv_at hl 1 rfl) ?_
    refine bi_ge (tgt := 29) hx hb dX1_zerosAtEnd_12 (by decide) (by omega) (by omega) (fun q => ?_) (fun q => ?_)
    · exact kk z H locs ls hV hP hD hS hl
    · exact absurd hk (by omega)
  | succ n ih =>
    intro z H locs ls hk hV hP hD hS hl
    refine lv_iload_n hx hb dX1_zerosAtEnd_10 rfl (lv_at hl 0 rfl) ?_
    refine lv_iload_n hx hb dX1_zerosAtEnd_11 rfl (lv_at hl 1 rfl) ?_
    refine bi_ge (tgt := 29) hx hb dX1_zerosAtEnd_12 (by decide) (by omega) (by omega) (fun q => ?_) (fun q => ?_)
    · exact absurd hk (by omega)
    · refine lv_aload_n hx hb dX1_zerosAtEnd_15 rfl (lv_at hl 2 rfl) ?_
      refine lv_iload_n hx hb dX1_zerosAtEnd_16 rfl (lv_at hl 0 rfl) ?_
      refine va_calli (va_runV (As := [.int (nI (z))]) (rest := []) ⟨hx, hb, hml, hown, hts⟩ (c_X1_figure l D cA tT A N ad _ _ (a := a) (x := x) (P := z) ha1 ha hx64 (by omega)) (cwV 1 hts gX1_zerosAtEnd_X1_figure rfl rfl rfl (by decide +kernel) ⟨hRf, hRl⟩) (wd_preV (k := a) hP hK hD hT hS (by omega) ha.1 rfl) rfl rfl hl.1 rfl (lv_room (Nat.le_of_ble_eq_true rfl)) dX1_zerosAtEnd_17 ⟨Nat.zero_le _, Nat.zero_le _⟩) hS id_2 id_1 (fun r_ u t H locs ht hvm hw hB hz1 hk1 hS => ?_)
      obtain ⟨hP, hD⟩ := wd_back ht hB
      clear ht hvm hB hz1 hk1
      obtain ⟨hr_, hu_⟩ := hw
      subst hr_
      rw [hu_] at hP hD
      clear hu_
      refine bz_ne (tgt := 29) hx hb dX1_zerosAtEnd_20 (by decide) (by omega) (fun q2 => ?_) (fun q2 => ?_)
      · exact kk z H locs ls (by rw [← hV, nd_z, if_neg q2]) hP hD hS hl
      · refine lv_iinc (v := nI (z + 1)) (lv' := [(2, .int (nI (z + 1))), (1, .int (nI (K))), (0, .ref (ad a))]) hx hb dX1_zerosAtEnd_23 hl (k := 0) rfl (nI_inc z 1) (by decide) rfl (fun ls hl => ?_)
        refine lv_goto (tgt := 10) hx hb dX1_zerosAtEnd_26 (by decide) ?_
        exact ih (z + 1) H locs ls (by omega) (by rw [← hV, nd_z, if_pos q2]) hP hD hS hl
set_option maxHeartbeats 4000000 in
set_option maxRecDepth 100000 in
/-- zerosAtEnd -/
theorem c_X1_zerosAtEnd (l : Launch) (D : va_G) (cA : Nat → ClassId) (tT : Nat) (A : Nat → Prop) (N : Nat) (ad : Nat → Nat) (sz : Nat) (g : Nat → va_E) {a x : Nat} (ha1 : a + 1 < N) (ha : is_N cA ad g a x) (hx64 : x < 1000000 ^ 64) : Met l yX1_zerosAtEnd wsX1_zerosAtEnd ({ frames := 1, cells := 0, slots := 0, locals := 22 }) (va_Pc [.ref (ad a)] (wd_B D cA tT A N ad sz g)) (va_Qi (fun (r : Int32) (u : Nat → va_E) => r = nI (nd_z x (nd_s x * 6) 0) ∧ u = g) (wd_E D cA A N ad) A) 0 0 A := by
  refine Met.ofW (cc := cX1_zerosAtEnd) (maxL := 3) (ret := (some .int)) (by decide) rfl ?_
  intro p e s m args below meth c s₁ B hml hv
  obtain ⟨rfl, hsz, hP, hK, hD, hT⟩ := hv
  have hx := B.exec
  have hb := B.bytes
  have hr := B.returns
  have hts := atoms_spec (ws := wsX1_zerosAtEnd) B.pre
  have hown : s.vm.findClass RX1 = some m.cls := findClass_of_methodNamed B.named
  have hlocks := B.notSynchronized
  subst hsz
  have hS : va_S A s.heap s.heap [] := va_S.rf
  have in1 : ∀ w ∈ wsX10, w ∈ wsX1_zerosAtEnd := by decide +kernel
  have hl := lv_entry ([.ref (ad a)]) (n := 3) (Nat.le_of_ble_eq_true rfl)
  rw [lg_entry_eq]
  generalize (lg_sl ([.ref (ad a)]) ++ List.replicate (3 - (lg_sl ([.ref (ad a)])).length) Slot.unset).toArray = ls at hl ⊢
  have hl : lv_has ls 3 [(0, .ref (ad a))] := hl
  have hs64 := nd_s64 hx64
  refine lv_aload_n hx hb dX1_zerosAtEnd_0 rfl (lv_at hl 0 rfl) ?_
  refine rg_1_size hx hb hts in1 hown hK hP a (by omega) ha.1 (hts _ (by decide +kernel)) dX1_zerosAtEnd_1 ?_
  refine lv_bipush (v := nI (6)) hx hb dX1_zerosAtEnd_4 (by decide) ?_
  refine lv_imul hx hb dX1_zerosAtEnd_6 ?_
  refine tp_i (y := nI ((nd_s x) * 6)) (pk_mul _ _) ?_
  refine lv_istore_n (lv' := [(1, .int (nI ((nd_s x) * 6))), (0, .ref (ad a))]) hx hb dX1_zerosAtEnd_7 rfl hl (by decide) rfl (fun ls hl => ?_)
  refine lv_iconst (v := nI (0)) hx hb dX1_zerosAtEnd_8 (by decide) ?_
  refine lv_istore_n (lv' := [(2, .int (nI (0))), (1, .int (nI ((nd_s x) * 6))), (0, .ref (ad a))]) hx hb dX1_zerosAtEnd_9 rfl hl (by decide) rfl (fun ls hl => ?_)
  refine lp_X1_zerosAtEnd (K := nd_s x * 6) ⟨hx, hb, hml, hown, hts⟩ hK hT (Nat.le_of_ble_eq_true rfl) (Nat.le_of_ble_eq_true rfl) ha1 ha hx64 (by omega) (fun z H locs ls hz hP hD hS hl => ?_) (nd_s x * 6) 0 _ _ ls (by omega) rfl hP hD hS hl
  refine lv_iload_n hx hb dX1_zerosAtEnd_29 rfl (lv_at hl 0 rfl) ?_
  exact W.iret (v := nI (z)) hx hb hr (fun t ht hW => ⟨⟨nI (z), g, rfl, ⟨by rw [hz], rfl⟩, wd_end hP hK hD ht hW⟩, hS.F ht⟩) hS.2.2 dX1_zerosAtEnd_30
set_option maxHeartbeats 4000000 in
set_option maxRecDepth 100000 in
theorem lp_X1_lowestBits {p : Program} {l : Launch} {e : Env} {R : Room} {s : State} {m : MethodId} {args : Array Value} {below : List Frame} {meth : Method} {c : Code} {Q : State → Prop} {D : va_G} {cA : Nat → ClassId} {tT : Nat} {A : Nat → Prop} {N : Nat} {ad : Nat → Nat} {g : Nat → va_E} {a x : Nat} (S : CallFix p m c cX1_lowestBits 4 s args wsX1_lowestBits RX1) (hK : va_K D vwCl (ty_s cA) s) (hT : st_T tT A s s.heap) (ha1 : a + 1 < N) (ha : is_N cA ad g a x) (hx64 : x < 1000000 ^ 64) (kk : ∀ (H : Heap) (locs : List Loc) (ls : Array Slot), va_P D vwCl (wm_W N ad (g)) H → va_D A (wm_W N ad (g)) → va_S A s.heap H locs → lv_has ls 4 [(1, .long (lN x)), (0, .ref (ad a))] → W p l e R s m args below meth c H locs 0 0 Q (F0 m 32 ls [])) :
    ∀ (k : Nat) (H : Heap) (locs : List Loc) (ls : Array Slot), k ≤ 64 → va_P D vwCl (wm_W N ad (g)) H → va_D A (wm_W N ad (g)) → va_S A s.heap H locs → lv_has ls 4 [(3, .int (dn k)), (1, .long (lN (x / 1000000 ^ k))), (0, .ref (ad a))] → W p l e R s m args below meth c H locs 0 0 Q (F0 m 9 ls []) := by
  obtain ⟨hx, hb, hml, hown, hts⟩ := S
  have in1 : ∀ w ∈ wsX10, w ∈ wsX1_lowestBits := by decide +kernel
  intro k
  induction k with
  | zero =>
    intro H locs ls hk hP hD hS hl
    refine lv_iload_n hx hb dX1_lowestBits_9 rfl (lv_at hl 0 rfl) ?_
    refine by_lt (tgt := 32) hx hb dX1_lowestBits_10 (by decide) (by omega) (by omega) (fun q => ?_) (fun q => ?_)
    · exact kk H locs ls hP hD hS (by rw [nd_q0] at hl; exact lv_sub hl [1, 2] rfl)
    · exact absurd (by decide) q
  | succ k ih =>
    intro H locs ls hk hP hD hS hl
    refine lv_iload_n hx hb dX1_lowestBits_9 rfl (lv_at hl 0 rfl) ?_
    refine bz_lt (tgt := 32) hx hb dX1_lowestBits_10 (by decide) (by omega) (fun q => ?_) (fun q => ?_)
    · exact absurd q (Nat.not_lt_zero _)
    · refine lv_lload_n hx hb dX1_lowestBits_13 rfl (lv_at hl 1 rfl) ?_
      refine lv_ldc2 (v := lN (1000000)) hx hb hown (hts _ (by decide +kernel)) dX1_lowestBits_14 ?_
      refine lv_lmul hx hb dX1_lowestBits_17 ?_
      refine tp_l (y := lN ((x / 1000000 ^ (k + 1)) * 1000000)) (lN_mul _ _) ?_
      refine lv_aload_n hx hb dX1_lowestBits_18 rfl (lv_at hl 2 rfl) ?_
      refine rg_1_limbs hx hb hts in1 hown hK hP a (by omega) ha.1 (hts _ (by decide +kernel)) dX1_lowestBits_19 ?_
      refine lv_iload_n hx hb dX1_lowestBits_22 rfl (lv_at hl 0 rfl) ?_
      refine rn_l hx hb hK hP (a + 1) (by omega) ha.2 (by omega) (by decide) dX1_lowestBits_23 ?_
      refine tp_l (y := lN (nd_d x k)) rfl ?_
      refine lv_ladd hx hb dX1_lowestBits_24 ?_
      refine tp_l (y := lN (x / 1000000 ^ k)) ((lN_add _ _).trans (by rw [nd_d, nd_q, show x / 1000000 ^ k / 1000000 * 1000000 + x / 1000000 ^ k % 1000000 = x / 1000000 ^ k by omega])) ?_
      refine lv_lstore_n (lv' := [(1, .long (lN (x / 1000000 ^ k))), (3, .int (nI (k))), (0, .ref (ad a))]) hx hb dX1_lowestBits_25 rfl hl (by decide) rfl (fun ls hl => ?_)
      refine lv_iinc (v := dn k) (lv' := [(3, .int (dn k)), (1, .long (lN (x / 1000000 ^ k))), (0, .ref (ad a))]) hx hb dX1_lowestBits_26 hl (k := 1) rfl (dn_dec k) (by decide) rfl (fun ls hl => ?_)
      refine lv_goto (tgt := 9) hx hb dX1_lowestBits_29 (by decide) ?_
      exact ih H locs ls (by omega) hP hD hS (lv_sub hl [0, 1, 2] rfl)
set_option maxHeartbeats 4000000 in
set_option maxRecDepth 100000 in
/-- lowestBits: the number, cut to 64 bits -/
theorem c_X1_lowestBits (l : Launch) (D : va_G) (cA : Nat → ClassId) (tT : Nat) (A : Nat → Prop) (N : Nat) (ad : Nat → Nat) (sz : Nat) (g : Nat → va_E) {a x : Nat} (ha1 : a + 1 < N) (ha : is_N cA ad g a x) (hx64 : x < 1000000 ^ 64) : Met l yX1_lowestBits wsX1_lowestBits ({ frames := 0, cells := 0, slots := 0, locals := 0 }) (va_Pc [.ref (ad a)] (wd_B D cA tT A N ad sz g)) (va_Ql (fun (r : Int64) (u : Nat → va_E) => r = lN x ∧ u = g) (wd_E D cA A N ad) A) 0 0 A := by
  refine Met.ofW (cc := cX1_lowestBits) (maxL := 4) (ret := (some .long)) (by decide) rfl ?_
  intro p e s m args below meth c s₁ B hml hv
  obtain ⟨rfl, hsz, hP, hK, hD, hT⟩ := hv
  have hx := B.exec
  have hb := B.bytes
  have hr := B.returns
  have hts := atoms_spec (ws := wsX1_lowestBits) B.pre
  have hown : s.vm.findClass RX1 = some m.cls := findClass_of_methodNamed B.named
  have hlocks := B.notSynchronized
  subst hsz
  have hS : va_S A s.heap s.heap [] := va_S.rf
  have in1 : ∀ w ∈ wsX10, w ∈ wsX1_lowestBits := by decide +kernel
  have hl := lv_entry ([.ref (ad a)]) (n := 4) (Nat.le_of_ble_eq_true rfl)
  rw [lg_entry_eq]
  generalize (lg_sl ([.ref (ad a)]) ++ List.replicate (4 - (lg_sl ([.ref (ad a)])).length) Slot.unset).toArray = ls at hl ⊢
  have hl : lv_has ls 4 [(0, .ref (ad a))] := hl
  have hs64 := nd_s64 hx64
  refine lv_lconst (v := lN (0)) hx hb dX1_lowestBits_0 rfl ?_
  refine lv_lstore_n (lv' := [(1, .long (lN (0))), (0, .ref (ad a))]) hx hb dX1_lowestBits_1 rfl hl (by decide) rfl (fun ls hl => ?_)
  refine lv_aload_n hx hb dX1_lowestBits_2 rfl (lv_at hl 1 rfl) ?_
  refine rg_1_size hx hb hts in1 hown hK hP a (by omega) ha.1 (hts _ (by decide +kernel)) dX1_lowestBits_3 ?_
  refine lv_iconst (v := nI (1)) hx hb dX1_lowestBits_6 (by decide) ?_
  refine lv_isub hx hb dX1_lowestBits_7 ?_
  refine tp_i (y := dn (nd_s x)) (dn_sub _) ?_
  refine lv_istore_n (lv' := [(3, .int (dn (nd_s x))), (1, .long (lN (0))), (0, .ref (ad a))]) hx hb dX1_lowestBits_8 rfl hl (by decide) rfl (fun ls hl => ?_)
  refine lp_X1_lowestBits ⟨hx, hb, hml, hown, hts⟩ hK hT ha1 ha hx64 (fun H locs ls hP hD hS hl => ?_) (nd_s x) _ _ ls hs64 hP hD hS (by rw [Nat.div_eq_of_lt (nd_s_lt x)]; exact hl)
  refine lv_lload_n hx hb dX1_lowestBits_32 rfl (lv_at hl 0 rfl) ?_
  exact W.lret (v := lN (x)) hx hb hr (fun t ht hW => ⟨⟨lN (x), g, rfl, ⟨rfl, rfl⟩, wd_end hP hK hD ht hW⟩, hS.F ht⟩) hS.2.2 dX1_lowestBits_33
end
section
/-- the order of two numbers, as an int -/
def od (x y : Nat) : Int32 := if x < y then iZ (-1) else if x = y then nI 0 else nI 1
theorem od_lt {x y : Nat} (h : x < y) : iZ (-1) = od x y := by rw [od, if_pos h]
theorem od_gt {x y : Nat} (h : y < x) : nI 1 = od x y := by rw [od, if_neg (by omega), if_neg (by omega)]
theorem od_eq {x y : Nat} (h : x = y) : nI 0 = od x y := by rw [od, if_neg (by omega), if_pos h]
theorem nd_sl {x y : Nat} (h : nd_s x < nd_s y) : x < y := Nat.lt_of_lt_of_le (nd_s_lt x) (nd_s_gt.mp h)
theorem nd_ql {x y k : Nat} (h : x / 1000000 ^ k < y / 1000000 ^ k) : x < y := by
  rcases Nat.lt_or_ge x y with q | q
  · exact q
  · exact absurd (Nat.div_le_div_right (c := 1000000 ^ k) q) (by omega)
theorem mx_n {a b : Nat} (ha : a < 2 ^ 31) (hb : b < 2 ^ 31) : (if nI a < nI b then nI b else nI a) = nI (max a b) := by
  by_cases q : a < b
  · rw [if_pos (nI_lt q hb), Nat.max_eq_right (by omega)]
  · rw [if_neg (nI_nlt (by omega) ha), Nat.max_eq_left (by omega)]
/-- the size of a sum -/
theorem nd_sadd {x y : Nat} (h : (x + y) / 1000000 ^ max (nd_s x) (nd_s y) = 0) : nd_s (x + y) = max (nd_s x) (nd_s y) := by
  have h1 : nd_s (x + y) ≤ max (nd_s x) (nd_s y) := nd_s_iff.mpr (by
    rcases Nat.lt_or_ge (x + y) (1000000 ^ max (nd_s x) (nd_s y)) with q | q
    · exact q
    · have := Nat.div_pos q (Nat.pow_pos (by decide)); omega)
  have h2 : nd_s x ≤ nd_s (x + y) := nd_s_iff.mpr (Nat.lt_of_le_of_lt (Nat.le_add_right x y) (nd_s_lt _))
  have h3 : nd_s y ≤ nd_s (x + y) := nd_s_iff.mpr (Nat.lt_of_le_of_lt (Nat.le_add_left y x) (nd_s_lt _))
  omega
set_option maxHeartbeats 4000000 in
set_option maxRecDepth 100000 in
theorem lp_X1_order {p : Program} {l : Launch} {e : Env} {R : Room} {s : State} {m : MethodId} {args : Array Value} {below : List Frame} {meth : Method} {c : Code} {Q : State → Prop} {D : va_G} {cA : Nat → ClassId} {tT : Nat} {A : Nat → Prop} {N : Nat} {ad : Nat → Nat} {g : Nat → va_E} {a o x y : Nat} (S : CallFix p m c cX1_order 3 s args wsX1_order RX1) (hK : va_K D vwCl (ty_s cA) s) (hT : st_T tT A s s.heap) (ha1 : a + 1 < N) (ho1 : o + 1 < N) (ha : is_N cA ad g a x) (ho : is_N cA ad g o y) (kk : ∀ (r : Int32) (H : Heap) (locs : List Loc) (ls : Array Slot), r = od x y → va_P D vwCl (wm_W N ad (g)) H → va_D A (wm_W N ad (g)) → va_S A s.heap H locs → W p l e R s m args below meth c H locs 0 0 Q (F0 m 76 ls [.int r])) (k0 : ∀ (H : Heap) (locs : List Loc) (ls : Array Slot), x = y → va_P D vwCl (wm_W N ad (g)) H → va_D A (wm_W N ad (g)) → va_S A s.heap H locs → W p l e R s m args below meth c H locs 0 0 Q (F0 m 83 ls [])) :
    ∀ (k : Nat) (H : Heap) (locs : List Loc) (ls : Array Slot), k ≤ 64 → x / 1000000 ^ k = y / 1000000 ^ k → va_P D vwCl (wm_W N ad (g)) H → va_D A (wm_W N ad (g)) → va_S A s.heap H locs → lv_has ls 3 [(2, .int (dn k)), (0, .ref (ad a)), (1, .ref (ad o))] → W p l e R s m args below meth c H locs 0 0 Q (F0 m 35 ls []) := by
  obtain ⟨hx, hb, hml, hown, hts⟩ := S
  have in1 : ∀ w ∈ wsX10, w ∈ wsX1_order := by decide +kernel
  intro k
  induction k with
  | zero =>
    intro H locs ls hk he hP hD hS hl
    refine lv_iload_n hx hb dX1_order_35 rfl (lv_at hl 0 rfl) ?_
    refine by_lt (tgt := 83) hx hb dX1_order_36 (by decide) (by omega) (by omega) (fun q => ?_) (fun q => ?_)
    · exact k0 H locs ls (by simp only [nd_q0] at he; exact he) hP hD hS
    · exact absurd (by decide) q
  | succ k ih =>
    intro H locs ls hk he hP hD hS hl
    have hd1 := nd_lt x k
    have hd2 := nd_lt y k
    simp only [nd_q] at he
    refine lv_iload_n hx hb dX1_order_35 rfl (lv_at hl 0 rfl) ?_
    refine bz_lt (tgt := 83) hx hb dX1_order_36 (by decide) (by omega) (fun q => ?_) (fun q => ?_)
    · exact absurd q (Nat.not_lt_zero _)
    · refine lv_aload_n hx hb dX1_order_39 rfl (lv_at hl 1 rfl) ?_
      refine rg_1_limbs hx hb hts in1 hown hK hP a (by omega) ha.1 (hts _ (by decide +kernel)) dX1_order_40 ?_
      refine lv_iload_n hx hb dX1_order_43 rfl (lv_at hl 0 rfl) ?_
      refine rn_l hx hb hK hP (a + 1) (by omega) ha.2 (by omega) (by decide) dX1_order_44 ?_
      refine tp_l (y := lN (nd_d x k)) rfl ?_
      refine lv_aload_n hx hb dX1_order_45 rfl (lv_at hl 2 rfl) ?_
      refine rg_1_limbs hx hb hts in1 hown hK hP o (by omega) ho.1 (hts _ (by decide +kernel)) dX1_order_46 ?_
      refine lv_iload_n hx hb dX1_order_49 rfl (lv_at hl 0 rfl) ?_
      refine rn_l hx hb hK hP (o + 1) (by omega) ho.2 (by omega) (by decide) dX1_order_50 ?_
      refine tp_l (y := lN (nd_d y k)) rfl ?_
      refine bl_eq (tgt := 77) hx hb dX1_order_51 dX1_order_52 (by decide) (by omega) (by omega) (fun q2 => ?_) (fun q2 => ?_)
      · refine lv_iinc (v := dn k) (lv' := [(2, .int (dn k)), (0, .ref (ad a)), (1, .ref (ad o))]) hx hb dX1_order_77 hl (k := 0) rfl (dn_dec k) (by decide) rfl (fun ls hl => ?_)
        refine lv_goto (tgt := 35) hx hb dX1_order_80 (by decide) ?_
        exact ih H locs ls (by omega) (by simp only [nd_d] at q2; omega) hP hD hS hl
      · refine lv_aload_n hx hb dX1_order_55 rfl (lv_at hl 1 rfl) ?_
        refine rg_1_limbs hx hb hts in1 hown hK hP a (by omega) ha.1 (hts _ (by decide +kernel)) dX1_order_56 ?_
        refine lv_iload_n hx hb dX1_order_59 rfl (lv_at hl 0 rfl) ?_
        refine rn_l hx hb hK hP (a + 1) (by omega) ha.2 (by omega) (by decide) dX1_order_60 ?_
        refine tp_l (y := lN (nd_d x k)) rfl ?_
        refine lv_aload_n hx hb dX1_order_61 rfl (lv_at hl 2 rfl) ?_
        refine rg_1_limbs hx hb hts in1 hown hK hP o (by omega) ho.1 (hts _ (by decide +kernel)) dX1_order_62 ?_
        refine lv_iload_n hx hb dX1_order_65 rfl (lv_at hl 0 rfl) ?_
        refine rn_l hx hb hK hP (o + 1) (by omega) ho.2 (by omega) (by decide) dX1_order_66 ?_
        refine tp_l (y := lN (nd_d y k)) rfl ?_
        refine bl_ge (tgt := 75) hx hb dX1_order_67 dX1_order_68 (by decide) (by omega) (by omega) (fun q3 => ?_) (fun q3 => ?_)
        · refine lv_iconst (v := nI (1)) hx hb dX1_order_75 (by decide) ?_
          exact kk _ H locs ls (od_gt (nd_ql (k := k) (by simp only [nd_d] at q2 q3; omega))) hP hD hS
        · refine lv_iconst (v := iZ (-1)) hx hb dX1_order_71 (by decide) ?_
          refine lv_goto (tgt := 76) hx hb dX1_order_72 (by decide) ?_
          exact kk _ H locs ls (od_lt (nd_ql (k := k) (by simp only [nd_d] at q2 q3; omega))) hP hD hS
set_option maxHeartbeats 4000000 in
set_option maxRecDepth 100000 in
/-- order of two numbers -/
theorem c_X1_order (l : Launch) (D : va_G) (cA : Nat → ClassId) (tT : Nat) (A : Nat → Prop) (N : Nat) (ad : Nat → Nat) (sz : Nat) (g : Nat → va_E) {a o x y : Nat} (ha1 : a + 1 < N) (ho1 : o + 1 < N) (ha : is_N cA ad g a x) (ho : is_N cA ad g o y) (hx64 : x < 1000000 ^ 64) (hy64 : y < 1000000 ^ 64) : Met l yX1_order wsX1_order ({ frames := 0, cells := 0, slots := 0, locals := 0 }) (va_Pc [.ref (ad a), .ref (ad o)] (wd_B D cA tT A N ad sz g)) (va_Qi (fun (r : Int32) (u : Nat → va_E) => r = od x y ∧ u = g) (wd_E D cA A N ad) A) 0 0 A := by
  refine Met.ofW (cc := cX1_order) (maxL := 3) (ret := (some .int)) (by decide) rfl ?_
  intro p e s m args below meth c s₁ B hml hv
  obtain ⟨rfl, hsz, hP, hK, hD, hT⟩ := hv
  have hx := B.exec
  have hb := B.bytes
  have hr := B.returns
  have hts := atoms_spec (ws := wsX1_order) B.pre
  have hown : s.vm.findClass RX1 = some m.cls := findClass_of_methodNamed B.named
  have hlocks := B.notSynchronized
  subst hsz
  have hS : va_S A s.heap s.heap [] := va_S.rf
  have in1 : ∀ w ∈ wsX10, w ∈ wsX1_order := by decide +kernel
  have hl := lv_entry ([.ref (ad a), .ref (ad o)]) (n := 3) (Nat.le_of_ble_eq_true rfl)
  rw [lg_entry_eq]
  generalize (lg_sl ([.ref (ad a), .ref (ad o)]) ++ List.replicate (3 - (lg_sl ([.ref (ad a), .ref (ad o)])).length) Slot.unset).toArray = ls at hl ⊢
  have hl : lv_has ls 3 [(0, .ref (ad a)), (1, .ref (ad o))] := hl
  have hs64 := nd_s64 hx64
  have ht64 := nd_s64 hy64
  refine lv_aload_n hx hb dX1_order_0 rfl (lv_at hl 0 rfl) ?_
  refine rg_1_size hx hb hts in1 hown hK hP a (by omega) ha.1 (hts _ (by decide +kernel)) dX1_order_1 ?_
  refine lv_aload_n hx hb dX1_order_4 rfl (lv_at hl 1 rfl) ?_
  refine rg_1_size hx hb hts in1 hown hK hP o (by omega) ho.1 (hts _ (by decide +kernel)) dX1_order_5 ?_
  refine bi_eq (tgt := 28) hx hb dX1_order_8 (by decide) (by omega) (by omega) (fun q => ?_) (fun q => ?_)
  · refine lv_aload_n hx hb dX1_order_28 rfl (lv_at hl 0 rfl) ?_
    refine rg_1_size hx hb hts in1 hown hK hP a (by omega) ha.1 (hts _ (by decide +kernel)) dX1_order_29 ?_
    refine lv_iconst (v := nI (1)) hx hb dX1_order_32 (by decide) ?_
    refine lv_isub hx hb dX1_order_33 ?_
    refine tp_i (y := dn (nd_s x)) (dn_sub _) ?_
    refine lv_istore_n (lv' := [(2, .int (dn (nd_s x))), (0, .ref (ad a)), (1, .ref (ad o))]) hx hb dX1_order_34 rfl hl (by decide) rfl (fun ls hl => ?_)
    refine lp_X1_order ⟨hx, hb, hml, hown, hts⟩ hK hT ha1 ho1 ha ho (fun r H locs ls hr2 hP hD hS => ?_) (fun H locs ls hr2 hP hD hS => ?_) (nd_s x) _ _ ls hs64 (by rw [nd_qz (nd_s_lt x) (Nat.le_refl _), nd_qz (nd_s_lt y) (by omega)]) hP hD hS hl
    · exact W.iret (v := r) hx hb hr (fun t ht hW => ⟨⟨r, g, rfl, ⟨hr2, rfl⟩, wd_end hP hK hD ht hW⟩, hS.F ht⟩) hS.2.2 dX1_order_76
    · refine lv_iconst (v := nI (0)) hx hb dX1_order_83 (by decide) ?_
      exact W.iret (v := nI (0)) hx hb hr (fun t ht hW => ⟨⟨nI (0), g, rfl, ⟨od_eq hr2, rfl⟩, wd_end hP hK hD ht hW⟩, hS.F ht⟩) hS.2.2 dX1_order_84
  · refine lv_aload_n hx hb dX1_order_11 rfl (lv_at hl 0 rfl) ?_
    refine rg_1_size hx hb hts in1 hown hK hP a (by omega) ha.1 (hts _ (by decide +kernel)) dX1_order_12 ?_
    refine lv_aload_n hx hb dX1_order_15 rfl (lv_at hl 1 rfl) ?_
    refine rg_1_size hx hb hts in1 hown hK hP o (by omega) ho.1 (hts _ (by decide +kernel)) dX1_order_16 ?_
    refine bi_ge (tgt := 26) hx hb dX1_order_19 (by decide) (by omega) (by omega) (fun q2 => ?_) (fun q2 => ?_)
    · refine lv_iconst (v := nI (1)) hx hb dX1_order_26 (by decide) ?_
      exact W.iret (v := nI (1)) hx hb hr (fun t ht hW => ⟨⟨nI (1), g, rfl, ⟨od_gt (nd_sl (by omega)), rfl⟩, wd_end hP hK hD ht hW⟩, hS.F ht⟩) hS.2.2 dX1_order_27
    · refine lv_iconst (v := iZ (-1)) hx hb dX1_order_22 (by decide) ?_
      refine lv_goto (tgt := 27) hx hb dX1_order_23 (by decide) ?_
      exact W.iret (v := iZ (-1)) hx hb hr (fun t ht hW => ⟨⟨iZ (-1), g, rfl, ⟨od_lt (nd_sl (by omega)), rfl⟩, wd_end hP hK hD ht hW⟩, hS.F ht⟩) hS.2.2 dX1_order_27
set_option maxHeartbeats 4000000 in
set_option maxRecDepth 100000 in
theorem lp_X1_add {p : Program} {l : Launch} {e : Env} {R : Room} {s : State} {m : MethodId} {args : Array Value} {below : List Frame} {meth : Method} {c : Code} {Q : State → Prop} {D : va_G} {cA : Nat → ClassId} {tT : Nat} {A : Nat → Prop} {N : Nat} {ad : Nat → Nat} {g : Nat → va_E} {a o x y : Nat} {K : Nat} (S : CallFix p m c cX1_add 8 s args wsX1_add RX1) (hK : va_K D vwCl (ty_s cA) s) (hT : st_T tT A s s.heap) (ha1 : a + 1 < N) (ho1 : o + 1 < N) (ho : is_N cA ad g o y) (n1 : a ≠ o) (n2 : a ≠ o + 1) (n3 : a + 1 ≠ o) (hK9 : K ≤ 64) (kk : ∀ (cv : Nat) (f : Nat → Int64) (H : Heap) (locs : List Loc) (ls : Array Slot), (x + y) / 1000000 ^ K = x / 1000000 ^ K + y / 1000000 ^ K + cv → cv ≤ 1 → (∀ j, j < K → f j = nd_A (x + y) j) → (∀ j, K ≤ j → f j = nd_A x j) → va_P D vwCl (wm_W N ad (nw_ cA ad g a f (nI (nd_s x)))) H → va_D A (wm_W N ad (nw_ cA ad g a f (nI (nd_s x)))) → va_S A s.heap H locs → lv_has ls 8 [(3, .long (lN cv)), (2, .int (nI K)), (0, .ref (ad a))] → W p l e R s m args below meth c H locs 0 0 Q (F0 m 68 ls [])) :
    ∀ (n i cv : Nat) (f : Nat → Int64) (H : Heap) (locs : List Loc) (ls : Array Slot), i + n = K → (x + y) / 1000000 ^ i = x / 1000000 ^ i + y / 1000000 ^ i + cv → cv ≤ 1 → (∀ j, j < i → f j = nd_A (x + y) j) → (∀ j, i ≤ j → f j = nd_A x j) → va_P D vwCl (wm_W N ad (nw_ cA ad g a f (nI (nd_s x)))) H → va_D A (wm_W N ad (nw_ cA ad g a f (nI (nd_s x)))) → va_S A s.heap H locs → lv_has ls 8 [(5, .int (nI (i))), (3, .long (lN (cv))), (2, .int (nI (K))), (0, .ref (ad a)), (1, .ref (ad o))] → W p l e R s m args below meth c H locs 0 0 Q (F0 m 17 ls []) := by
  obtain ⟨hx, hb, hml, hown, hts⟩ := S
  have in1 : ∀ w ∈ wsX10, w ∈ wsX1_add := by decide +kernel
  intro n
  induction n with
  | zero =>
    intro i cv f H locs ls hn hi hc h1 h2 hP hD hS hl
    refine lv_iload hx hb dX1_add_17 (lv_at hl 0 rfl) ?_
    refine lv_iload_n hx hb dX1_add_19 rfl (lv_at hl 2 rfl) ?_
    refine bi_ge (tgt := 68) hx hb dX1_add_20 (by decide) (by omega) (by omega) (fun q => ?_) (fun q => ?_)
    · obtain rfl : i = K := by omega
      exact kk cv f H locs ls hi hc h1 h2 hP hD hS (lv_sub hl [1, 2, 3] rfl)
    · exact absurd hn (by omega)
  | succ n ih =>
    intro i cv f H locs ls hn hi hc h1 h2 hP hD hS hl
    refine lv_iload hx hb dX1_add_17 (lv_at hl 0 rfl) ?_
    refine lv_iload_n hx hb dX1_add_19 rfl (lv_at hl 2 rfl) ?_
    refine bi_ge (tgt := 68) hx hb dX1_add_20 (by decide) (by omega) (by omega) (fun q => ?_) (fun q => ?_)
    · exact absurd hn (by omega)
    · have hd1 := nd_lt x i
      have hd2 := nd_lt y i
      refine lv_aload_n hx hb dX1_add_23 rfl (lv_at hl 3 rfl) ?_
      refine rg_1_limbs hx hb hts in1 hown hK hP a (by omega) nw_o (hts _ (by decide +kernel)) dX1_add_24 ?_
      refine lv_iload hx hb dX1_add_27 (lv_at hl 0 rfl) ?_
      refine rn_l hx hb hK hP (a + 1) (by omega) nw_l (by omega) (by decide) dX1_add_29 ?_
      refine tp_l (y := lN (nd_d x i)) (h2 i (Nat.le_refl i)) ?_
      refine lv_aload_n hx hb dX1_add_30 rfl (lv_at hl 4 rfl) ?_
      refine rg_1_limbs hx hb hts in1 hown hK hP o (by omega) ((nw_ne (by omega) (by omega)).trans ho.1) (hts _ (by decide +kernel)) dX1_add_31 ?_
      refine lv_iload hx hb dX1_add_34 (lv_at hl 0 rfl) ?_
      refine rn_l hx hb hK hP (o + 1) (by omega) ((nw_ne (by omega) (by omega)).trans ho.2) (by omega) (by decide) dX1_add_36 ?_
      refine tp_l (y := lN (nd_d y i)) rfl ?_
      refine lv_ladd hx hb dX1_add_37 ?_
      refine tp_l (y := lN ((nd_d x i) + (nd_d y i))) (lN_add _ _) ?_
      refine lv_lload_n hx hb dX1_add_38 rfl (lv_at hl 1 rfl) ?_
      refine lv_ladd hx hb dX1_add_39 ?_
      refine tp_l (y := lN (((nd_d x i) + (nd_d y i)) + cv)) (lN_add _ _) ?_
      refine lv_lstore (lv' := [(6, .long (lN (((nd_d x i) + (nd_d y i)) + cv))), (5, .int (nI (i))), (3, .long (lN (cv))), (2, .int (nI (K))), (0, .ref (ad a)), (1, .ref (ad o))]) hx hb dX1_add_40 hl (by decide) rfl (fun ls hl => ?_)
      refine lv_aload_n hx hb dX1_add_42 rfl (lv_at hl 4 rfl) ?_
      refine rg_1_limbs hx hb hts in1 hown hK hP a (by omega) nw_o (hts _ (by decide +kernel)) dX1_add_43 ?_
      refine lv_iload hx hb dX1_add_46 (lv_at hl 1 rfl) ?_
      refine lv_lload hx hb dX1_add_48 (lv_at hl 0 rfl) ?_
      refine lv_ldc2 (v := lN (1000000)) hx hb hown (hts _ (by decide +kernel)) dX1_add_50 ?_
      refine lv_lrem hx hb dX1_add_53 (lN_ne0 (by omega) (by omega)) ?_
      refine tp_l (y := lN ((((nd_d x i) + (nd_d y i)) + cv) % 1000000)) (pk_lRem (by omega) (by omega) (by omega)) ?_
      refine rt_l hx hb hK hP hD hS (a + 1) (by omega) nw_l (by omega) (by decide) dX1_add_54 (fun H locs hP hD hS => ?_)
      rw [nw_sl] at hP hD
      refine lv_lload hx hb dX1_add_55 (lv_at hl 0 rfl) ?_
      refine lv_ldc2 (v := lN (1000000)) hx hb hown (hts _ (by decide +kernel)) dX1_add_57 ?_
      refine lv_ldiv hx hb dX1_add_60 (lN_ne0 (by omega) (by omega)) ?_
      refine tp_l (y := lN ((((nd_d x i) + (nd_d y i)) + cv) / 1000000)) (pk_lDiv (by omega) (by omega) (by omega)) ?_
      refine lv_lstore_n (lv' := [(3, .long (lN ((((nd_d x i) + (nd_d y i)) + cv) / 1000000))), (6, .long (lN (((nd_d x i) + (nd_d y i)) + cv))), (5, .int (nI (i))), (2, .int (nI (K))), (0, .ref (ad a)), (1, .ref (ad o))]) hx hb dX1_add_61 rfl hl (by decide) rfl (fun ls hl => ?_)
      refine lv_iinc (v := nI (i + 1)) (lv' := [(5, .int (nI (i + 1))), (3, .long (lN ((((nd_d x i) + (nd_d y i)) + cv) / 1000000))), (6, .long (lN (((nd_d x i) + (nd_d y i)) + cv))), (2, .int (nI (K))), (0, .ref (ad a)), (1, .ref (ad o))]) hx hb dX1_add_62 hl (k := 2) rfl (nI_inc i 1) (by decide) rfl (fun ls hl => ?_)
      refine lv_goto (tgt := 17) hx hb dX1_add_65 (by decide) ?_
      refine ih (i + 1) _ _ H locs ls (by omega) (by simp only [nd_q, nd_d]; omega) (by omega) (fun j hj => ?_) (fun j hj => ?_) hP hD hS (lv_sub hl [0, 1, 3, 4, 5] rfl)
      · rcases Nat.lt_or_ge j i with r | r
        · rw [pk_uLn (by omega)]; exact h1 j r
        · obtain rfl : j = i := by omega
          rw [pk_uLs, nd_A]; congr 1
          simp only [nd_d]; omega
      · rw [pk_uLn (by omega)]; exact h2 j (by omega)
set_option maxHeartbeats 4000000 in
set_option maxRecDepth 100000 in
/-- add -/
theorem c_X1_add (l : Launch) (D : va_G) (cA : Nat → ClassId) (tT : Nat) (A : Nat → Prop) (N : Nat) (ad : Nat → Nat) (sz : Nat) (g : Nat → va_E) {a o x y : Nat} (ha1 : a + 1 < N) (ha : is_N cA ad g a x) (ho1 : o + 1 < N) (ho : is_N cA ad g o y) (n1 : a ≠ o) (n2 : a ≠ o + 1) (n3 : a + 1 ≠ o) (hx64 : x < 1000000 ^ 64) (hy64 : y < 1000000 ^ 64) (hs : x + y < 1000000 ^ 64) : Met l yX1_add wsX1_add ({ frames := 1, cells := 0, slots := 0, locals := 23 }) (va_Pc [.ref (ad a), .ref (ad o)] (wd_B D cA tT A N ad sz g)) (va_Qv (fun (u : Nat → va_E) => u = nN cA ad g a (x + y)) (wd_E D cA A N ad) A) 0 0 A := by
  refine Met.ofW (cc := cX1_add) (maxL := 8) (ret := none) (by decide) rfl ?_
  intro p e s m args below meth c s₁ B hml hv
  obtain ⟨rfl, hsz, hP, hK, hD, hT⟩ := hv
  have hx := B.exec
  have hb := B.bytes
  have hr := B.returns
  have hts := atoms_spec (ws := wsX1_add) B.pre
  have hown : s.vm.findClass RX1 = some m.cls := findClass_of_methodNamed B.named
  have hlocks := B.notSynchronized
  subst hsz
  have hS : va_S A s.heap s.heap [] := va_S.rf
  have in1 : ∀ w ∈ wsX10, w ∈ wsX1_add := by decide +kernel
  have hl := lv_entry ([.ref (ad a), .ref (ad o)]) (n := 8) (Nat.le_of_ble_eq_true rfl)
  rw [lg_entry_eq]
  generalize (lg_sl ([.ref (ad a), .ref (ad o)]) ++ List.replicate (8 - (lg_sl ([.ref (ad a), .ref (ad o)])).length) Slot.unset).toArray = ls at hl ⊢
  have hl : lv_has ls 8 [(0, .ref (ad a)), (1, .ref (ad o))] := hl
  have hs64 := nd_s64 hx64
  have ht64 := nd_s64 hy64
  have hm1 : max (nd_s x) (nd_s y) ≤ 64 := by omega
  rw [← nw_self ha] at hP hD
  refine lv_aload_n hx hb dX1_add_0 rfl (lv_at hl 0 rfl) ?_
  refine rg_1_size hx hb hts in1 hown hK hP a (by omega) nw_o (hts _ (by decide +kernel)) dX1_add_1 ?_
  refine lv_aload_n hx hb dX1_add_4 rfl (lv_at hl 1 rfl) ?_
  refine rg_1_size hx hb hts in1 hown hK hP o (by omega) ((nw_ne (by omega) (by omega)).trans ho.1) (hts _ (by decide +kernel)) dX1_add_5 ?_
  refine va_mmax hx hb (by rw [hml]; exact hl.1.symm) hown (hts _ (by decide +kernel)) (hts _ (by decide +kernel)) (hts _ (by decide +kernel)) (hts _ (by decide +kernel)) (Nat.le_of_ble_eq_true rfl) (Nat.le_of_ble_eq_true rfl) (Nat.zero_le _) (Nat.zero_le _) dX1_add_8 ?_
  refine tp_i (y := nI (max (nd_s x) (nd_s y))) (mx_n (by omega) (by omega)) ?_
  refine lv_istore_n (lv' := [(2, .int (nI (max (nd_s x) (nd_s y)))), (0, .ref (ad a)), (1, .ref (ad o))]) hx hb dX1_add_11 rfl hl (by decide) rfl (fun ls hl => ?_)
  refine lv_lconst (v := lN (0)) hx hb dX1_add_12 rfl ?_
  refine lv_lstore_n (lv' := [(3, .long (lN (0))), (2, .int (nI (max (nd_s x) (nd_s y)))), (0, .ref (ad a)), (1, .ref (ad o))]) hx hb dX1_add_13 rfl hl (by decide) rfl (fun ls hl => ?_)
  refine lv_iconst (v := nI (0)) hx hb dX1_add_14 (by decide) ?_
  refine lv_istore (lv' := [(5, .int (nI (0))), (3, .long (lN (0))), (2, .int (nI (max (nd_s x) (nd_s y)))), (0, .ref (ad a)), (1, .ref (ad o))]) hx hb dX1_add_15 hl (by decide) rfl (fun ls hl => ?_)
  refine lp_X1_add (K := max (nd_s x) (nd_s y)) ⟨hx, hb, hml, hown, hts⟩ hK hT ha1 ho1 ho n1 n2 n3 hm1 (fun cv f H locs ls hi hc h1 h2 hP hD hS hl => ?_) (max (nd_s x) (nd_s y)) 0 0 _ _ _ ls (by omega) (by simp only [nd_q0]; omega) (Nat.zero_le _) (fun j hj => absurd hj (Nat.not_lt_zero _)) (fun j _ => rfl) hP hD hS (lv_sub hl [0,1,2,3,4] rfl)
  rw [nd_qz (nd_s_lt x) (by omega), nd_qz (nd_s_lt y) (by omega)] at hi
  refine lv_aload_n hx hb dX1_add_68 rfl (lv_at hl 2 rfl) ?_
  refine lv_iload_n hx hb dX1_add_69 rfl (lv_at hl 1 rfl) ?_
  refine lv_lload_n hx hb dX1_add_70 rfl (lv_at hl 0 rfl) ?_
  refine va_callv (va_runV (As := [.int (nI (max (nd_s x) (nd_s y))), .long (lN (cv))]) (rest := []) ⟨hx, hb, hml, hown, hts⟩ (c_X1_close l D cA tT A N ad _ g (a := a) (V := x + y) (k := max (nd_s x) (nd_s y)) (cv := cv) (f := f) (sv := nI (nd_s x)) ha1 hm1 hs (by omega) (by omega) (fun h0 => nd_sadd (by omega)) h1 (fun j hj => by rw [h2 j hj, nd_A, nd_dz (nd_s_lt x) (by omega)])) (cwV 2 hts gX1_add_X1_close rfl rfl rfl (by decide +kernel) ⟨Nat.le_of_ble_eq_true rfl, Nat.le_of_ble_eq_true rfl⟩) (wd_preV (k := a) hP hK hD hT hS (by omega) nw_o rfl) rfl rfl hl.1 rfl (lv_room (Nat.le_of_ble_eq_true rfl)) dX1_add_71 ⟨Nat.zero_le _, Nat.zero_le _⟩) hS id_2 id_1 (fun u t H locs ht hvm hw hB hz1 hk1 hS => ?_)
  obtain ⟨hP, hD⟩ := wd_back ht hB
  clear ht hvm hB hz1 hk1
  rw [hw] at hP hD
  clear hw
  exact W.vret hx hb hr (fun t ht hW => ⟨⟨_, rfl, rfl, wd_end hP hK hD ht hW⟩, hS.F ht⟩) hS.2.2 dX1_add_74
set_option maxHeartbeats 4000000 in
set_option maxRecDepth 100000 in
theorem lp_X1_addSelf {p : Program} {l : Launch} {e : Env} {R : Room} {s : State} {m : MethodId} {args : Array Value} {below : List Frame} {meth : Method} {c : Code} {Q : State → Prop} {D : va_G} {cA : Nat → ClassId} {tT : Nat} {A : Nat → Prop} {N : Nat} {ad : Nat → Nat} {g : Nat → va_E} {a x : Nat} {K : Nat} (S : CallFix p m c cX1_add 8 s args wsX1_add RX1) (hK : va_K D vwCl (ty_s cA) s) (hT : st_T tT A s s.heap) (ha1 : a + 1 < N)  (hK9 : K ≤ 64) (kk : ∀ (cv : Nat) (f : Nat → Int64) (H : Heap) (locs : List Loc) (ls : Array Slot), (x + x) / 1000000 ^ K = x / 1000000 ^ K + x / 1000000 ^ K + cv → cv ≤ 1 → (∀ j, j < K → f j = nd_A (x + x) j) → (∀ j, K ≤ j → f j = nd_A x j) → va_P D vwCl (wm_W N ad (nw_ cA ad g a f (nI (nd_s x)))) H → va_D A (wm_W N ad (nw_ cA ad g a f (nI (nd_s x)))) → va_S A s.heap H locs → lv_has ls 8 [(3, .long (lN cv)), (2, .int (nI K)), (0, .ref (ad a))] → W p l e R s m args below meth c H locs 0 0 Q (F0 m 68 ls [])) :
    ∀ (n i cv : Nat) (f : Nat → Int64) (H : Heap) (locs : List Loc) (ls : Array Slot), i + n = K → (x + x) / 1000000 ^ i = x / 1000000 ^ i + x / 1000000 ^ i + cv → cv ≤ 1 → (∀ j, j < i → f j = nd_A (x + x) j) → (∀ j, i ≤ j → f j = nd_A x j) → va_P D vwCl (wm_W N ad (nw_ cA ad g a f (nI (nd_s x)))) H → va_D A (wm_W N ad (nw_ cA ad g a f (nI (nd_s x)))) → va_S A s.heap H locs → lv_has ls 8 [(5, .int (nI (i))), (3, .long (lN (cv))), (2, .int (nI (K))), (0, .ref (ad a)), (1, .ref (ad a))] → W p l e R s m args below meth c H locs 0 0 Q (F0 m 17 ls []) := by
  obtain ⟨hx, hb, hml, hown, hts⟩ := S
  have in1 : ∀ w ∈ wsX10, w ∈ wsX1_add := by decide +kernel
  intro n
  induction n with
  | zero =>
    intro i cv f H locs ls hn hi hc h1 h2 hP hD hS hl
    refine lv_iload hx hb dX1_add_17 (lv_at hl 0 rfl) ?_
    refine lv_iload_n hx hb dX1_add_19 rfl (lv_at hl 2 rfl) ?_
    refine bi_ge (tgt := 68) hx hb dX1_add_20 (by decide) (by omega) (by omega) (fun q => ?_) (fun q => ?_)
    · obtain rfl : i = K := by omega
      exact kk cv f H locs ls hi hc h1 h2 hP hD hS (lv_sub hl [1, 2, 3] rfl)
    · exact absurd hn (by omega)
  | succ n ih =>
    intro i cv f H locs ls hn hi hc h1 h2 hP hD hS hl
    refine lv_iload hx hb dX1_add_17 (lv_at hl 0 rfl) ?_
    refine lv_iload_n hx hb dX1_add_19 rfl (lv_at hl 2 rfl) ?_
    refine bi_ge (tgt := 68) hx hb dX1_add_20 (by decide) (by omega) (by omega) (fun q => ?_) (fun q => ?_)
    · exact absurd hn (by omega)
    · have hd1 := nd_lt x i
      have hd2 := nd_lt x i
      refine lv_aload_n hx hb dX1_add_23 rfl (lv_at hl 3 rfl) ?_
      refine rg_1_limbs hx hb hts in1 hown hK hP a (by omega) nw_o (hts _ (by decide +kernel)) dX1_add_24 ?_
      refine lv_iload hx hb dX1_add_27 (lv_at hl 0 rfl) ?_
      refine rn_l hx hb hK hP (a + 1) (by omega) nw_l (by omega) (by decide) dX1_add_29 ?_
      refine tp_l (y := lN (nd_d x i)) (h2 i (Nat.le_refl i)) ?_
      refine lv_aload_n hx hb dX1_add_30 rfl (lv_at hl 4 rfl) ?_
      refine rg_1_limbs hx hb hts in1 hown hK hP a (by omega) nw_o (hts _ (by decide +kernel)) dX1_add_31 ?_
      refine lv_iload hx hb dX1_add_34 (lv_at hl 0 rfl) ?_
      refine rn_l hx hb hK hP (a + 1) (by omega) nw_l (by omega) (by decide) dX1_add_36 ?_
      refine tp_l (y := lN (nd_d x i)) (h2 i (Nat.le_refl i)) ?_
      refine lv_ladd hx hb dX1_add_37 ?_
      refine tp_l (y := lN ((nd_d x i) + (nd_d x i))) (lN_add _ _) ?_
      refine lv_lload_n hx hb dX1_add_38 rfl (lv_at hl 1 rfl) ?_
      refine lv_ladd hx hb dX1_add_39 ?_
      refine tp_l (y := lN (((nd_d x i) + (nd_d x i)) + cv)) (lN_add _ _) ?_
      refine lv_lstore (lv' := [(6, .long (lN (((nd_d x i) + (nd_d x i)) + cv))), (5, .int (nI (i))), (3, .long (lN (cv))), (2, .int (nI (K))), (0, .ref (ad a)), (1, .ref (ad a))]) hx hb dX1_add_40 hl (by decide) rfl (fun ls hl => ?_)
      refine lv_aload_n hx hb dX1_add_42 rfl (lv_at hl 4 rfl) ?_
      refine rg_1_limbs hx hb hts in1 hown hK hP a (by omega) nw_o (hts _ (by decide +kernel)) dX1_add_43 ?_
      refine lv_iload hx hb dX1_add_46 (lv_at hl 1 rfl) ?_
      refine lv_lload hx hb dX1_add_48 (lv_at hl 0 rfl) ?_
      refine lv_ldc2 (v := lN (1000000)) hx hb hown (hts _ (by decide +kernel)) dX1_add_50 ?_
      refine lv_lrem hx hb dX1_add_53 (lN_ne0 (by omega) (by omega)) ?_
      refine tp_l (y := lN ((((nd_d x i) + (nd_d x i)) + cv) % 1000000)) (pk_lRem (by omega) (by omega) (by omega)) ?_
      refine rt_l hx hb hK hP hD hS (a + 1) (by omega) nw_l (by omega) (by decide) dX1_add_54 (fun H locs hP hD hS => ?_)
      rw [nw_sl] at hP hD
      refine lv_lload hx hb dX1_add_55 (lv_at hl 0 rfl) ?_
      refine lv_ldc2 (v := lN (1000000)) hx hb hown (hts _ (by decide +kernel)) dX1_add_57 ?_
      refine lv_ldiv hx hb dX1_add_60 (lN_ne0 (by omega) (by omega)) ?_
      refine tp_l (y := lN ((((nd_d x i) + (nd_d x i)) + cv) / 1000000)) (pk_lDiv (by omega) (by omega) (by omega)) ?_
      refine lv_lstore_n (lv' := [(3, .long (lN ((((nd_d x i) + (nd_d x i)) + cv) / 1000000))), (6, .long (lN (((nd_d x i) + (nd_d x i)) + cv))), (5, .int (nI (i))), (2, .int (nI (K))), (0, .ref (ad a)), (1, .ref (ad a))]) hx hb dX1_add_61 rfl hl (by decide) rfl (fun ls hl => ?_)
      refine lv_iinc (v := nI (i + 1)) (lv' := [(5, .int (nI (i + 1))), (3, .long (lN ((((nd_d x i) + (nd_d x i)) + cv) / 1000000))), (6, .long (lN (((nd_d x i) + (nd_d x i)) + cv))), (2, .int (nI (K))), (0, .ref (ad a)), (1, .ref (ad a))]) hx hb dX1_add_62 hl (k := 2) rfl (nI_inc i 1) (by decide) rfl (fun ls hl => ?_)
      refine lv_goto (tgt := 17) hx hb dX1_add_65 (by decide) ?_
      refine ih (i + 1) _ _ H locs ls (by omega) (by simp only [nd_q, nd_d]; omega) (by omega) (fun j hj => ?_) (fun j hj => ?_) hP hD hS (lv_sub hl [0, 1, 3, 4, 5] rfl)
      · rcases Nat.lt_or_ge j i with r | r
        · rw [pk_uLn (by omega)]; exact h1 j r
        · obtain rfl : j = i := by omega
          rw [pk_uLs, nd_A]; congr 1
          simp only [nd_d]; omega
      · rw [pk_uLn (by omega)]; exact h2 j (by omega)
set_option maxHeartbeats 4000000 in
set_option maxRecDepth 100000 in
/-- add -/
theorem c_X1_addSelf (l : Launch) (D : va_G) (cA : Nat → ClassId) (tT : Nat) (A : Nat → Prop) (N : Nat) (ad : Nat → Nat) (sz : Nat) (g : Nat → va_E) {a x : Nat} (ha1 : a + 1 < N) (ha : is_N cA ad g a x)  (hx64 : x < 1000000 ^ 64)  (hs : x + x < 1000000 ^ 64) : Met l yX1_add wsX1_add ({ frames := 1, cells := 0, slots := 0, locals := 23 }) (va_Pc [.ref (ad a), .ref (ad a)] (wd_B D cA tT A N ad sz g)) (va_Qv (fun (u : Nat → va_E) => u = nN cA ad g a (x + x)) (wd_E D cA A N ad) A) 0 0 A := by
  refine Met.ofW (cc := cX1_add) (maxL := 8) (ret := none) (by decide) rfl ?_
  intro p e s m args below meth c s₁ B hml hv
  obtain ⟨rfl, hsz, hP, hK, hD, hT⟩ := hv
  have hx := B.exec
  have hb := B.bytes
  have hr := B.returns
  have hts := atoms_spec (ws := wsX1_add) B.pre
  have hown : s.vm.findClass RX1 = some m.cls := findClass_of_methodNamed B.named
  have hlocks := B.notSynchronized
  subst hsz
  have hS : va_S A s.heap s.heap [] := va_S.rf
  have in1 : ∀ w ∈ wsX10, w ∈ wsX1_add := by decide +kernel
  have hl := lv_entry ([.ref (ad a), .ref (ad a)]) (n := 8) (Nat.le_of_ble_eq_true rfl)
  rw [lg_entry_eq]
  generalize (lg_sl ([.ref (ad a), .ref (ad a)]) ++ List.replicate (8 - (lg_sl ([.ref (ad a), .ref (ad a)])).length) Slot.unset).toArray = ls at hl ⊢
  have hl : lv_has ls 8 [(0, .ref (ad a)), (1, .ref (ad a))] := hl
  have hs64 := nd_s64 hx64
  have ht64 := hs64
  have hm1 : max (nd_s x) (nd_s x) ≤ 64 := by omega
  rw [← nw_self ha] at hP hD
  refine lv_aload_n hx hb dX1_add_0 rfl (lv_at hl 0 rfl) ?_
  refine rg_1_size hx hb hts in1 hown hK hP a (by omega) nw_o (hts _ (by decide +kernel)) dX1_add_1 ?_
  refine lv_aload_n hx hb dX1_add_4 rfl (lv_at hl 1 rfl) ?_
  refine rg_1_size hx hb hts in1 hown hK hP a (by omega) nw_o (hts _ (by decide +kernel)) dX1_add_5 ?_
  refine va_mmax hx hb (by rw [hml]; exact hl.1.symm) hown (hts _ (by decide +kernel)) (hts _ (by decide +kernel)) (hts _ (by decide +kernel)) (hts _ (by decide +kernel)) (Nat.le_of_ble_eq_true rfl) (Nat.le_of_ble_eq_true rfl) (Nat.zero_le _) (Nat.zero_le _) dX1_add_8 ?_
  refine tp_i (y := nI (max (nd_s x) (nd_s x))) (mx_n (by omega) (by omega)) ?_
  refine lv_istore_n (lv' := [(2, .int (nI (max (nd_s x) (nd_s x)))), (0, .ref (ad a)), (1, .ref (ad a))]) hx hb dX1_add_11 rfl hl (by decide) rfl (fun ls hl => ?_)
  refine lv_lconst (v := lN (0)) hx hb dX1_add_12 rfl ?_
  refine lv_lstore_n (lv' := [(3, .long (lN (0))), (2, .int (nI (max (nd_s x) (nd_s x)))), (0, .ref (ad a)), (1, .ref (ad a))]) hx hb dX1_add_13 rfl hl (by decide) rfl (fun ls hl => ?_)
  refine lv_iconst (v := nI (0)) hx hb dX1_add_14 (by decide) ?_
  refine lv_istore (lv' := [(5, .int (nI (0))), (3, .long (lN (0))), (2, .int (nI (max (nd_s x) (nd_s x)))), (0, .ref (ad a)), (1, .ref (ad a))]) hx hb dX1_add_15 hl (by decide) rfl (fun ls hl => ?_)
  refine lp_X1_addSelf (K := max (nd_s x) (nd_s x)) ⟨hx, hb, hml, hown, hts⟩ hK hT ha1  hm1 (fun cv f H locs ls hi hc h1 h2 hP hD hS hl => ?_) (max (nd_s x) (nd_s x)) 0 0 _ _ _ ls (by omega) (by simp only [nd_q0]; omega) (Nat.zero_le _) (fun j hj => absurd hj (Nat.not_lt_zero _)) (fun j _ => rfl) hP hD hS (lv_sub hl [0,1,2,3,4] rfl)
  rw [nd_qz (nd_s_lt x) (by omega)] at hi
  refine lv_aload_n hx hb dX1_add_68 rfl (lv_at hl 2 rfl) ?_
  refine lv_iload_n hx hb dX1_add_69 rfl (lv_at hl 1 rfl) ?_
  refine lv_lload_n hx hb dX1_add_70 rfl (lv_at hl 0 rfl) ?_
  refine va_callv (va_runV (As := [.int (nI (max (nd_s x) (nd_s x))), .long (lN (cv))]) (rest := []) ⟨hx, hb, hml, hown, hts⟩ (c_X1_close l D cA tT A N ad _ g (a := a) (V := x + x) (k := max (nd_s x) (nd_s x)) (cv := cv) (f := f) (sv := nI (nd_s x)) ha1 hm1 hs (by omega) (by omega) (fun h0 => nd_sadd (by omega)) h1 (fun j hj => by rw [h2 j hj, nd_A, nd_dz (nd_s_lt x) (by omega)])) (cwV 2 hts gX1_add_X1_close rfl rfl rfl (by decide +kernel) ⟨Nat.le_of_ble_eq_true rfl, Nat.le_of_ble_eq_true rfl⟩) (wd_preV (k := a) hP hK hD hT hS (by omega) nw_o rfl) rfl rfl hl.1 rfl (lv_room (Nat.le_of_ble_eq_true rfl)) dX1_add_71 ⟨Nat.zero_le _, Nat.zero_le _⟩) hS id_2 id_1 (fun u t H locs ht hvm hw hB hz1 hk1 hS => ?_)
  obtain ⟨hP, hD⟩ := wd_back ht hB
  clear ht hvm hB hz1 hk1
  rw [hw] at hP hD
  clear hw
  exact W.vret hx hb hr (fun t ht hW => ⟨⟨_, rfl, rfl, wd_end hP hK hD ht hW⟩, hS.F ht⟩) hS.2.2 dX1_add_74
end
section
/-- a number with a sign -/
def sg (n : Bool) (q : Nat) : Int := if n then -(q : Int) else (q : Int)
theorem sg_t (q : Nat) : sg true q = -(q : Int) := rfl
theorem sg_f (q : Nat) : sg false q = (q : Int) := rfl
theorem sg_abs (n : Bool) (q : Nat) : (sg n q).natAbs = q := by
  cases n
  · rw [sg_f]; omega
  · rw [sg_t]; omega
theorem sg_of (z : Int) : sg (decide (z < 0)) z.natAbs = z := by
  by_cases h : z < 0
  · rw [decide_eq_true h, sg_t]; omega
  · rw [decide_eq_false h, sg_f]; omega
theorem sg_tdiv (n : Bool) (q b : Nat) : (sg n q).tdiv (b : Int) = sg n (q / b) := by
  cases n
  · rw [sg_f, sg_f, ← Int.ofNat_tdiv]
  · rw [sg_t, sg_t, Int.neg_tdiv, ← Int.ofNat_tdiv]
theorem sg_le {n : Bool} {q r : Nat} (h : r ≤ q) (h1 : -9223372036854775808 ≤ sg n q) (h2 : sg n q < 9223372036854775808) : -9223372036854775808 ≤ sg n r ∧ sg n r < 9223372036854775808 := by
  cases n
  · rw [sg_f] at *; omega
  · rw [sg_t] at *; omega
theorem lZ_div {n : Bool} {q b : Nat} (h1 : -9223372036854775808 ≤ sg n q) (h2 : sg n q < 9223372036854775808) (b2 : b < 2 ^ 63) : lZ (sg n q) / lN b = lZ (sg n (q / b)) := by
  apply Int64.toInt_inj.mp
  have hb : (lN b).toInt = (b : Int) := pk_lT b2
  have hne : lN b ≠ -1 := by
    intro h
    rw [h] at hb
    have : (-1 : Int64).toInt = -1 := by decide
    omega
  have h3 := sg_le (Nat.div_le_self q b) h1 h2
  rw [Int64.toInt_div_of_ne_right _ _ hne, lZ_toInt h1 h2, hb, sg_tdiv, lZ_toInt h3.1 h3.2]
theorem sg_sub (n : Bool) (q b : Nat) : sg n q - sg n (q / b) * (b : Int) = sg n (q % b) := by
  have e : ((q / b * b : Nat) : Int) + ((q % b : Nat) : Int) = (q : Int) := by
    have := Nat.div_add_mod q b
    rw [Nat.mul_comm] at this
    omega
  rw [Int.natCast_mul] at e
  cases n
  · rw [sg_f, sg_f, sg_f]; omega
  · rw [sg_t, sg_t, sg_t, Int.neg_mul]; omega
theorem lZ_rem {n : Bool} {q b : Nat} (h1 : -9223372036854775808 ≤ sg n q) (h2 : sg n q < 9223372036854775808) (b2 : b < 2 ^ 63) : lZ (sg n q) - lZ (sg n q) / lN b * lN b = lZ (sg n (q % b)) := by
  rw [lZ_div h1 h2 b2, lZ_nat b, lZ_mul, lZ_sub, sg_sub]
theorem lZ_abs {n : Bool} {r : Nat} (h : r < 9223372036854775808) : (if 0 < lZ (sg n r) then lZ (sg n r) else -lZ (sg n r)) = lN r := by
  rw [show (0 : Int64) = lZ 0 by decide]
  cases n
  · rw [sg_f]
    by_cases q : 0 < (r : Int)
    · rw [if_pos ((lZ_lt (by decide) (by decide) (by omega) (by omega)).mpr q), lZ_nat]
    · rw [if_neg (fun z => q ((lZ_lt (by decide) (by decide) (by omega) (by omega)).mp z)), lZ_neg, lZ_nat]
      congr 1; omega
  · rw [sg_t, if_neg (fun z => absurd ((lZ_lt (by decide) (by decide) (by omega) (by omega)).mp z) (by omega)), lZ_neg, lZ_nat]
    congr 1; omega
theorem nd_dsh (V F j : Nat) : nd_d (V * 1000000 ^ F) j = if j < F then 0 else nd_d V (j - F) := by
  by_cases h : j < F
  · rw [if_pos h, nd_d]
    obtain ⟨d, rfl⟩ : ∃ d, F = j + (d + 1) := ⟨F - j - 1, by omega⟩
    rw [Nat.pow_add, Nat.pow_succ, show V * (1000000 ^ j * (1000000 ^ d * 1000000)) = 1000000 ^ j * (V * 1000000 ^ d * 1000000) by
      simp only [Nat.mul_comm, Nat.mul_left_comm], Nat.mul_div_cancel_left _ (Nat.pow_pos (by decide))]
    omega
  · rw [if_neg h, nd_d, nd_d]
    obtain ⟨d, rfl⟩ : ∃ d, j = F + d := ⟨j - F, by omega⟩
    rw [Nat.pow_add, ← Nat.div_div_eq_div_mul, Nat.mul_div_cancel _ (Nat.pow_pos (by decide)), show F + d - F = d by omega]
theorem nd_ssh {V F : Nat} (h : V ≠ 0) : nd_s (V * 1000000 ^ F) = nd_s V + F := by
  have h1 : nd_s (V * 1000000 ^ F) ≤ nd_s V + F := nd_s_iff.mpr (by
    rw [Nat.pow_add]; exact (Nat.mul_lt_mul_right (Nat.pow_pos (by decide))).mpr (nd_s_lt V))
  have h0 : 0 < nd_s V := by
    rcases Nat.eq_zero_or_pos (nd_s V) with q | q
    · exact absurd (nd_s_z.mp q) h
    · exact q
  have h2 : nd_s V + F - 1 < nd_s (V * 1000000 ^ F) := nd_s_gt.mpr (by
    rw [show nd_s V + F - 1 = (nd_s V - 1) + F by omega, Nat.pow_add]
    exact Nat.mul_le_mul_right _ (nd_s_gt.mp (by omega)))
  omega
theorem nd_ssub {x k : Nat} (h : x < 1000000 ^ k) (y : Nat) : x - y < 1000000 ^ k := by omega
set_option maxHeartbeats 4000000 in
set_option maxRecDepth 100000 in
theorem lp_X1_subtract {p : Program} {l : Launch} {e : Env} {R : Room} {s : State} {m : MethodId} {args : Array Value} {below : List Frame} {meth : Method} {c : Code} {Q : State → Prop} {D : va_G} {cA : Nat → ClassId} {tT : Nat} {A : Nat → Prop} {N : Nat} {ad : Nat → Nat} {g : Nat → va_E} {a o x y : Nat} (S : CallFix p m c cX1_subtract 7 s args wsX1_subtract RX1) (hK : va_K D vwCl (ty_s cA) s) (hT : st_T tT A s s.heap) (ha1 : a + 1 < N) (ho1 : o + 1 < N) (ho : is_N cA ad g o y) (n1 : a ≠ o) (n2 : a ≠ o + 1) (n3 : a + 1 ≠ o) (hs64 : nd_s x ≤ 64) (kk : ∀ (H : Heap) (locs : List Loc) (ls : Array Slot), va_P D vwCl (wm_W N ad (nw_ cA ad g a (nd_A (x - y)) (nI (nd_s x)))) H → va_D A (wm_W N ad (nw_ cA ad g a (nd_A (x - y)) (nI (nd_s x)))) → va_S A s.heap H locs → lv_has ls 7 [(0, .ref (ad a))] → W p l e R s m args below meth c H locs 0 0 Q (F0 m 67 ls [])) :
    ∀ (n i bv : Nat) (f : Nat → Int64) (H : Heap) (locs : List Loc) (ls : Array Slot), i + n = nd_s x → x / 1000000 ^ i = y / 1000000 ^ i + bv + (x - y) / 1000000 ^ i → bv ≤ 1 → (∀ j, j < i → f j = nd_A (x - y) j) → (∀ j, i ≤ j → f j = nd_A x j) → va_P D vwCl (wm_W N ad (nw_ cA ad g a f (nI (nd_s x)))) H → va_D A (wm_W N ad (nw_ cA ad g a f (nI (nd_s x)))) → va_S A s.heap H locs → lv_has ls 7 [(4, .int (nI (i))), (2, .long (lN (bv))), (0, .ref (ad a)), (1, .ref (ad o))] → W p l e R s m args below meth c H locs 0 0 Q (F0 m 5 ls []) := by
  obtain ⟨hx, hb, hml, hown, hts⟩ := S
  have in1 : ∀ w ∈ wsX10, w ∈ wsX1_subtract := by decide +kernel
  intro n
  induction n with
  | zero =>
    intro i bv f H locs ls hn hi hc h1 h2 hP hD hS hl
    refine lv_iload hx hb dX1_subtract_5 (lv_at hl 0 rfl) ?_
    refine lv_aload_n hx hb dX1_subtract_7 rfl (lv_at hl 2 rfl) ?_
    refine rg_1_size hx hb hts in1 hown hK hP a (by omega) nw_o (hts _ (by decide +kernel)) dX1_subtract_8 ?_
    refine bi_ge (tgt := 67) hx hb dX1_subtract_11 (by decide) (by omega) (by omega) (fun q => ?_) (fun q => ?_)
    · have hfe : f = nd_A (x - y) := by
        funext j
        rcases Nat.lt_or_ge j i with r | r
        · exact h1 j r
        · rw [h2 j r, nd_A, nd_A, nd_dz (nd_s_lt x) (by omega), nd_dz (nd_ssub (nd_s_lt x) y) (by omega)]
      subst hfe
      exact kk H locs ls hP hD hS (lv_sub hl [2] rfl)
    · exact absurd hn (by omega)
  | succ n ih =>
    intro i bv f H locs ls hn hi hc h1 h2 hP hD hS hl
    refine lv_iload hx hb dX1_subtract_5 (lv_at hl 0 rfl) ?_
    refine lv_aload_n hx hb dX1_subtract_7 rfl (lv_at hl 2 rfl) ?_
    refine rg_1_size hx hb hts in1 hown hK hP a (by omega) nw_o (hts _ (by decide +kernel)) dX1_subtract_8 ?_
    refine bi_ge (tgt := 67) hx hb dX1_subtract_11 (by decide) (by omega) (by omega) (fun q => ?_) (fun q => ?_)
    · exact absurd hn (by omega)
    · have hd1 := nd_lt x i
      have hd2 := nd_lt y i
      rcases Nat.lt_or_ge (nd_d x i) (nd_d y i + bv) with hlt | hge
      · refine lv_aload_n hx hb dX1_subtract_14 rfl (lv_at hl 2 rfl) ?_
        refine rg_1_limbs hx hb hts in1 hown hK hP a (by omega) nw_o (hts _ (by decide +kernel)) dX1_subtract_15 ?_
        refine lv_iload hx hb dX1_subtract_18 (lv_at hl 0 rfl) ?_
        refine rn_l hx hb hK hP (a + 1) (by omega) nw_l (by omega) (by decide) dX1_subtract_20 ?_
        refine tp_l (y := lN (nd_d x i)) (h2 i (Nat.le_refl i)) ?_
        refine lv_aload_n hx hb dX1_subtract_21 rfl (lv_at hl 3 rfl) ?_
        refine rg_1_limbs hx hb hts in1 hown hK hP o (by omega) ((nw_ne (by omega) (by omega)).trans ho.1) (hts _ (by decide +kernel)) dX1_subtract_22 ?_
        refine lv_iload hx hb dX1_subtract_25 (lv_at hl 0 rfl) ?_
        refine rn_l hx hb hK hP (o + 1) (by omega) ((nw_ne (by omega) (by omega)).trans ho.2) (by omega) (by decide) dX1_subtract_27 ?_
        refine tp_l (y := lN (nd_d y i)) rfl ?_
        refine lv_lsub hx hb dX1_subtract_28 ?_
        refine tp_l (y := lZ ((nd_d x i : Int) - nd_d y i)) (by rw [lZ_nat, lZ_nat, lZ_sub]) ?_
        refine lv_lload_n hx hb dX1_subtract_29 rfl (lv_at hl 1 rfl) ?_
        refine lv_lsub hx hb dX1_subtract_30 ?_
        refine tp_l (y := lZ ((nd_d x i : Int) - nd_d y i - bv)) (by rw [lZ_nat bv, lZ_sub]) ?_
        refine lv_lstore (lv' := [(5, .long (lZ ((nd_d x i : Int) - nd_d y i - bv))), (4, .int (nI (i))), (2, .long (lN (bv))), (0, .ref (ad a)), (1, .ref (ad o))]) hx hb dX1_subtract_31 hl (by decide) rfl (fun ls hl => ?_)
        refine lv_lload hx hb dX1_subtract_33 (lv_at hl 0 rfl) ?_
        refine lv_lconst (v := lN (0)) hx hb dX1_subtract_35 rfl ?_
        refine bL_ge (tgt := 44) hx hb dX1_subtract_36 dX1_subtract_37 (by decide) (fun q4 => ?_) (fun q4 => ?_)
        · rw [lZ_nat, lZ_le (by decide) (by decide) (by omega) (by omega)] at q4
          exact absurd q4 (by omega)
        · refine lv_lconst (v := lN (1)) hx hb dX1_subtract_40 rfl ?_
          refine lv_goto (tgt := 45) hx hb dX1_subtract_41 (by decide) ?_
          refine lv_lstore_n (lv' := [(2, .long (lN (1))), (5, .long (lZ ((nd_d x i : Int) - nd_d y i - bv))), (4, .int (nI (i))), (0, .ref (ad a)), (1, .ref (ad o))]) hx hb dX1_subtract_45 rfl hl (by decide) rfl (fun ls hl => ?_)
          refine lv_aload_n hx hb dX1_subtract_46 rfl (lv_at hl 3 rfl) ?_
          refine rg_1_limbs hx hb hts in1 hown hK hP a (by omega) nw_o (hts _ (by decide +kernel)) dX1_subtract_47 ?_
          refine lv_iload hx hb dX1_subtract_50 (lv_at hl 2 rfl) ?_
          refine lv_lload hx hb dX1_subtract_52 (lv_at hl 1 rfl) ?_
          refine lv_lload_n hx hb dX1_subtract_54 rfl (lv_at hl 0 rfl) ?_
          refine lv_ldc2 (v := lN (1000000)) hx hb hown (hts _ (by decide +kernel)) dX1_subtract_55 ?_
          refine lv_lmul hx hb dX1_subtract_58 ?_
          refine tp_l (y := lN (1 * 1000000)) (lN_mul _ _) ?_
          refine lv_ladd hx hb dX1_subtract_59 ?_
          refine tp_l (y := lN (nd_d x i + 1000000 - nd_d y i - bv)) (by rw [lZ_nat, lZ_add, lZ_nat]; congr 1; omega) ?_
          refine rt_l hx hb hK hP hD hS (a + 1) (by omega) nw_l (by omega) (by decide) dX1_subtract_60 (fun H locs hP hD hS => ?_)
          rw [nw_sl] at hP hD
          refine lv_iinc (v := nI (i + 1)) (lv' := [(4, .int (nI (i + 1))), (2, .long (lN (1))), (5, .long (lZ ((nd_d x i : Int) - nd_d y i - bv))), (0, .ref (ad a)), (1, .ref (ad o))]) hx hb dX1_subtract_61 hl (k := 2) rfl (nI_inc i 1) (by decide) rfl (fun ls hl => ?_)
          refine lv_goto (tgt := 5) hx hb dX1_subtract_64 (by decide) ?_
          refine ih (i + 1) 1 _ H locs ls (by omega) (by simp only [nd_q]; simp only [nd_d] at hlt hd1 hd2; omega) (by omega) (fun j hj => ?_) (fun j hj => ?_) hP hD hS (lv_sub hl [0, 1, 3, 4] rfl)
          · rcases Nat.lt_or_ge j i with r | r
            · rw [pk_uLn (by omega)]; exact h1 j r
            · obtain rfl : j = i := by omega
              rw [pk_uLs, nd_A]; congr 1
              simp only [nd_d] at hlt hd1 hd2 ⊢; omega
          · rw [pk_uLn (by omega)]; exact h2 j (by omega)
      · refine lv_aload_n hx hb dX1_subtract_14 rfl (lv_at hl 2 rfl) ?_
        refine rg_1_limbs hx hb hts in1 hown hK hP a (by omega) nw_o (hts _ (by decide +kernel)) dX1_subtract_15 ?_
        refine lv_iload hx hb dX1_subtract_18 (lv_at hl 0 rfl) ?_
        refine rn_l hx hb hK hP (a + 1) (by omega) nw_l (by omega) (by decide) dX1_subtract_20 ?_
        refine tp_l (y := lN (nd_d x i)) (h2 i (Nat.le_refl i)) ?_
        refine lv_aload_n hx hb dX1_subtract_21 rfl (lv_at hl 3 rfl) ?_
        refine rg_1_limbs hx hb hts in1 hown hK hP o (by omega) ((nw_ne (by omega) (by omega)).trans ho.1) (hts _ (by decide +kernel)) dX1_subtract_22 ?_
        refine lv_iload hx hb dX1_subtract_25 (lv_at hl 0 rfl) ?_
        refine rn_l hx hb hK hP (o + 1) (by omega) ((nw_ne (by omega) (by omega)).trans ho.2) (by omega) (by decide) dX1_subtract_27 ?_
        refine tp_l (y := lN (nd_d y i)) rfl ?_
        refine lv_lsub hx hb dX1_subtract_28 ?_
        refine tp_l (y := lN ((nd_d x i) - (nd_d y i))) (lN_sub (by omega)) ?_
        refine lv_lload_n hx hb dX1_subtract_29 rfl (lv_at hl 1 rfl) ?_
        refine lv_lsub hx hb dX1_subtract_30 ?_
        refine tp_l (y := lN (((nd_d x i) - (nd_d y i)) - bv)) (lN_sub (by omega)) ?_
        refine lv_lstore (lv' := [(5, .long (lN (((nd_d x i) - (nd_d y i)) - bv))), (4, .int (nI (i))), (2, .long (lN (bv))), (0, .ref (ad a)), (1, .ref (ad o))]) hx hb dX1_subtract_31 hl (by decide) rfl (fun ls hl => ?_)
        refine lv_lload hx hb dX1_subtract_33 (lv_at hl 0 rfl) ?_
        refine lv_lconst (v := lN (0)) hx hb dX1_subtract_35 rfl ?_
        refine bl_ge (tgt := 44) hx hb dX1_subtract_36 dX1_subtract_37 (by decide) (by omega) (by omega) (fun q4 => ?_) (fun q4 => ?_)
        · refine lv_lconst (v := lN (0)) hx hb dX1_subtract_44 rfl ?_
          refine lv_lstore_n (lv' := [(2, .long (lN (0))), (5, .long (lN (((nd_d x i) - (nd_d y i)) - bv))), (4, .int (nI (i))), (0, .ref (ad a)), (1, .ref (ad o))]) hx hb dX1_subtract_45 rfl hl (by decide) rfl (fun ls hl => ?_)
          refine lv_aload_n hx hb dX1_subtract_46 rfl (lv_at hl 3 rfl) ?_
          refine rg_1_limbs hx hb hts in1 hown hK hP a (by omega) nw_o (hts _ (by decide +kernel)) dX1_subtract_47 ?_
          refine lv_iload hx hb dX1_subtract_50 (lv_at hl 2 rfl) ?_
          refine lv_lload hx hb dX1_subtract_52 (lv_at hl 1 rfl) ?_
          refine lv_lload_n hx hb dX1_subtract_54 rfl (lv_at hl 0 rfl) ?_
          refine lv_ldc2 (v := lN (1000000)) hx hb hown (hts _ (by decide +kernel)) dX1_subtract_55 ?_
          refine lv_lmul hx hb dX1_subtract_58 ?_
          refine tp_l (y := lN (0 * 1000000)) (lN_mul _ _) ?_
          refine lv_ladd hx hb dX1_subtract_59 ?_
          refine tp_l (y := lN ((((nd_d x i) - (nd_d y i)) - bv) + (0 * 1000000))) (lN_add _ _) ?_
          refine rt_l hx hb hK hP hD hS (a + 1) (by omega) nw_l (by omega) (by decide) dX1_subtract_60 (fun H locs hP hD hS => ?_)
          rw [nw_sl] at hP hD
          refine lv_iinc (v := nI (i + 1)) (lv' := [(4, .int (nI (i + 1))), (2, .long (lN (0))), (5, .long (lN (((nd_d x i) - (nd_d y i)) - bv))), (0, .ref (ad a)), (1, .ref (ad o))]) hx hb dX1_subtract_61 hl (k := 2) rfl (nI_inc i 1) (by decide) rfl (fun ls hl => ?_)
          refine lv_goto (tgt := 5) hx hb dX1_subtract_64 (by decide) ?_
          refine ih (i + 1) 0 _ H locs ls (by omega) (by simp only [nd_q]; simp only [nd_d] at hge hd1 hd2; omega) (by omega) (fun j hj => ?_) (fun j hj => ?_) hP hD hS (lv_sub hl [0, 1, 3, 4] rfl)
          · rcases Nat.lt_or_ge j i with r | r
            · rw [pk_uLn (by omega)]; exact h1 j r
            · obtain rfl : j = i := by omega
              rw [pk_uLs, nd_A]; congr 1
              simp only [nd_d] at hge hd1 hd2 ⊢; omega
          · rw [pk_uLn (by omega)]; exact h2 j (by omega)
        · exact absurd (Nat.zero_le _) q4
set_option maxHeartbeats 4000000 in
set_option maxRecDepth 100000 in
/-- subtract -/
theorem c_X1_subtract (l : Launch) (D : va_G) (cA : Nat → ClassId) (tT : Nat) (A : Nat → Prop) (N : Nat) (ad : Nat → Nat) (sz : Nat) (g : Nat → va_E) {a o x y : Nat} (ha1 : a + 1 < N) (ha : is_N cA ad g a x) (ho1 : o + 1 < N) (ho : is_N cA ad g o y) (n1 : a ≠ o) (n2 : a ≠ o + 1) (n3 : a + 1 ≠ o) (hx64 : x < 1000000 ^ 64) (hyx : y ≤ x) : Met l yX1_subtract wsX1_subtract ({ frames := 1, cells := 0, slots := 0, locals := 20 }) (va_Pc [.ref (ad a), .ref (ad o)] (wd_B D cA tT A N ad sz g)) (va_Qv (fun (u : Nat → va_E) => u = nN cA ad g a (x - y)) (wd_E D cA A N ad) A) 0 0 A := by
  refine Met.ofW (cc := cX1_subtract) (maxL := 7) (ret := none) (by decide) rfl ?_
  intro p e s m args below meth c s₁ B hml hv
  obtain ⟨rfl, hsz, hP, hK, hD, hT⟩ := hv
  have hx := B.exec
  have hb := B.bytes
  have hr := B.returns
  have hts := atoms_spec (ws := wsX1_subtract) B.pre
  have hown : s.vm.findClass RX1 = some m.cls := findClass_of_methodNamed B.named
  have hlocks := B.notSynchronized
  subst hsz
  have hS : va_S A s.heap s.heap [] := va_S.rf
  have in1 : ∀ w ∈ wsX10, w ∈ wsX1_subtract := by decide +kernel
  have hl := lv_entry ([.ref (ad a), .ref (ad o)]) (n := 7) (Nat.le_of_ble_eq_true rfl)
  rw [lg_entry_eq]
  generalize (lg_sl ([.ref (ad a), .ref (ad o)]) ++ List.replicate (7 - (lg_sl ([.ref (ad a), .ref (ad o)])).length) Slot.unset).toArray = ls at hl ⊢
  have hl : lv_has ls 7 [(0, .ref (ad a)), (1, .ref (ad o))] := hl
  have hs64 := nd_s64 hx64
  rw [← nw_self ha] at hP hD
  refine lv_lconst (v := lN (0)) hx hb dX1_subtract_0 rfl ?_
  refine lv_lstore_n (lv' := [(2, .long (lN (0))), (0, .ref (ad a)), (1, .ref (ad o))]) hx hb dX1_subtract_1 rfl hl (by decide) rfl (fun ls hl => ?_)
  refine lv_iconst (v := nI (0)) hx hb dX1_subtract_2 (by decide) ?_
  refine lv_istore (lv' := [(4, .int (nI (0))), (2, .long (lN (0))), (0, .ref (ad a)), (1, .ref (ad o))]) hx hb dX1_subtract_3 hl (by decide) rfl (fun ls hl => ?_)
  refine lp_X1_subtract ⟨hx, hb, hml, hown, hts⟩ hK hT ha1 ho1 ho n1 n2 n3 hs64 (fun H locs ls hP hD hS hl => ?_) (nd_s x) 0 0 _ _ _ ls (by omega) (by simp only [nd_q0]; omega) (Nat.zero_le _) (fun j hj => absurd hj (Nat.not_lt_zero _)) (fun j _ => rfl) hP hD hS (lv_sub hl [0, 1, 2, 3] rfl)
  refine lv_aload_n hx hb dX1_subtract_67 rfl (lv_at hl 0 rfl) ?_
  refine va_callv (va_runV (As := []) (rest := []) ⟨hx, hb, hml, hown, hts⟩ (c_X1_shrink l D cA tT A N ad _ g (a := a) (V := x - y) (k := nd_s x) ha1 hs64 (nd_ssub (nd_s_lt x) y)) (cwV 0 hts gX1_subtract_X1_shrink rfl rfl rfl (by decide +kernel) ⟨Nat.le_of_ble_eq_true rfl, Nat.le_of_ble_eq_true rfl⟩) (wd_preV (k := a) hP hK hD hT hS (by omega) nw_o rfl) rfl rfl hl.1 rfl (lv_room (Nat.le_of_ble_eq_true rfl)) dX1_subtract_68 ⟨Nat.zero_le _, Nat.zero_le _⟩) hS id_2 id_1 (fun u t H locs ht hvm hw hB hz1 hk1 hS => ?_)
  obtain ⟨hP, hD⟩ := wd_back ht hB
  clear ht hvm hB hz1 hk1
  rw [hw] at hP hD
  clear hw
  exact W.vret hx hb hr (fun t ht hW => ⟨⟨_, rfl, rfl, wd_end hP hK hD ht hW⟩, hS.F ht⟩) hS.2.2 dX1_subtract_71
set_option maxHeartbeats 4000000 in
set_option maxRecDepth 100000 in
theorem lp_X1_shift1 {p : Program} {l : Launch} {e : Env} {R : Room} {s : State} {m : MethodId} {args : Array Value} {below : List Frame} {meth : Method} {c : Code} {Q : State → Prop} {D : va_G} {cA : Nat → ClassId} {tT : Nat} {A : Nat → Prop} {N : Nat} {ad : Nat → Nat} {g : Nat → va_E} {a V F : Nat} (S : CallFix p m c cX1_shift 3 s args wsX1_shift RX1) (hK : va_K D vwCl (ty_s cA) s) (hT : st_T tT A s s.heap) (ha1 : a + 1 < N) (hF : nd_s V + F ≤ 64) (kk : ∀ (f : Nat → Int64) (H : Heap) (locs : List Loc) (ls : Array Slot), (∀ j, F ≤ j → f j = nd_A V (j - F)) → va_P D vwCl (wm_W N ad (nw_ cA ad g a f (nI (nd_s V)))) H → va_D A (wm_W N ad (nw_ cA ad g a f (nI (nd_s V)))) → va_S A s.heap H locs → lv_has ls 3 [(0, .ref (ad a)), (1, .int (nI F))] → W p l e R s m args below meth c H locs 0 0 Q (F0 m 31 ls [])) :
    ∀ (k : Nat) (f : Nat → Int64) (H : Heap) (locs : List Loc) (ls : Array Slot), k ≤ nd_s V → (∀ j, k + F ≤ j → f j = nd_A V (j - F)) → (∀ j, j < k → f j = nd_A V j) → va_P D vwCl (wm_W N ad (nw_ cA ad g a f (nI (nd_s V)))) H → va_D A (wm_W N ad (nw_ cA ad g a f (nI (nd_s V)))) → va_S A s.heap H locs → lv_has ls 3 [(2, .int (dn k)), (0, .ref (ad a)), (1, .int (nI (F)))] → W p l e R s m args below meth c H locs 0 0 Q (F0 m 7 ls []) := by
  obtain ⟨hx, hb, hml, hown, hts⟩ := S
  have in1 : ∀ w ∈ wsX10, w ∈ wsX1_shift := by decide +kernel
  intro k
  induction k with
  | zero =>
    intro f H locs ls hk h1 h2 hP hD hS hl
    refine lv_iload_n hx hb dX1_shift_7 rfl (lv_at hl 0 rfl) ?_
    refine by_lt (tgt := 31) hx hb dX1_shift_8 (by decide) (by omega) (by omega) (fun q => ?_) (fun q => ?_)
    · exact kk f H locs ls (fun j hj => h1 j (by omega)) hP hD hS (lv_sub hl [1, 2] rfl)
    · exact absurd (by decide) q
  | succ k ih =>
    intro f H locs ls hk h1 h2 hP hD hS hl
    refine lv_iload_n hx hb dX1_shift_7 rfl (lv_at hl 0 rfl) ?_
    refine bz_lt (tgt := 31) hx hb dX1_shift_8 (by decide) (by omega) (fun q => ?_) (fun q => ?_)
    · exact absurd q (Nat.not_lt_zero _)
    · refine lv_aload_n hx hb dX1_shift_11 rfl (lv_at hl 1 rfl) ?_
      refine rg_1_limbs hx hb hts in1 hown hK hP a (by omega) nw_o (hts _ (by decide +kernel)) dX1_shift_12 ?_
      refine lv_iload_n hx hb dX1_shift_15 rfl (lv_at hl 0 rfl) ?_
      refine lv_iload_n hx hb dX1_shift_16 rfl (lv_at hl 2 rfl) ?_
      refine lv_iadd hx hb dX1_shift_17 ?_
      refine tp_i (y := nI (k + F)) (nI_add _ _) ?_
      refine lv_aload_n hx hb dX1_shift_18 rfl (lv_at hl 1 rfl) ?_
      refine rg_1_limbs hx hb hts in1 hown hK hP a (by omega) nw_o (hts _ (by decide +kernel)) dX1_shift_19 ?_
      refine lv_iload_n hx hb dX1_shift_22 rfl (lv_at hl 0 rfl) ?_
      refine rn_l hx hb hK hP (a + 1) (by omega) nw_l (by omega) (by decide) dX1_shift_23 ?_
      refine tp_l (y := lN (nd_d V k)) (h2 k (by omega)) ?_
      refine rt_l hx hb hK hP hD hS (a + 1) (by omega) nw_l (by omega) (by decide) dX1_shift_24 (fun H locs hP hD hS => ?_)
      rw [nw_sl] at hP hD
      refine lv_iinc (v := dn k) (lv' := [(2, .int (dn k)), (0, .ref (ad a)), (1, .int (nI (F)))]) hx hb dX1_shift_25 hl (k := 0) rfl (dn_dec k) (by decide) rfl (fun ls hl => ?_)
      refine lv_goto (tgt := 7) hx hb dX1_shift_28 (by decide) ?_
      refine ih _ H locs ls (by omega) (fun j hj => ?_) (fun j hj => ?_) hP hD hS hl
      · rcases Nat.lt_or_ge (k + F) j with r | r
        · rw [pk_uLn (by omega)]; exact h1 j (by omega)
        · obtain rfl : j = k + F := by omega
          rw [pk_uLs, nd_A, show k + F - F = k by omega]
      · rw [pk_uLn (by omega)]; exact h2 j (by omega)
set_option maxHeartbeats 4000000 in
set_option maxRecDepth 100000 in
theorem lp_X1_shift2 {p : Program} {l : Launch} {e : Env} {R : Room} {s : State} {m : MethodId} {args : Array Value} {below : List Frame} {meth : Method} {c : Code} {Q : State → Prop} {D : va_G} {cA : Nat → ClassId} {tT : Nat} {A : Nat → Prop} {N : Nat} {ad : Nat → Nat} {g : Nat → va_E} {a V F : Nat} (S : CallFix p m c cX1_shift 3 s args wsX1_shift RX1) (hK : va_K D vwCl (ty_s cA) s) (hT : st_T tT A s s.heap) (ha1 : a + 1 < N) (hF : nd_s V + F ≤ 64) (kk : ∀ (f : Nat → Int64) (H : Heap) (locs : List Loc) (ls : Array Slot), (∀ j, F ≤ j → f j = nd_A V (j - F)) → (∀ j, j < F → f j = lN 0) → va_P D vwCl (wm_W N ad (nw_ cA ad g a f (nI (nd_s V)))) H → va_D A (wm_W N ad (nw_ cA ad g a f (nI (nd_s V)))) → va_S A s.heap H locs → lv_has ls 3 [(0, .ref (ad a)), (1, .int (nI F))] → W p l e R s m args below meth c H locs 0 0 Q (F0 m 51 ls [])) :
    ∀ (n i : Nat) (f : Nat → Int64) (H : Heap) (locs : List Loc) (ls : Array Slot), i + n = F → (∀ j, F ≤ j → f j = nd_A V (j - F)) → (∀ j, j < i → f j = lN 0) → va_P D vwCl (wm_W N ad (nw_ cA ad g a f (nI (nd_s V)))) H → va_D A (wm_W N ad (nw_ cA ad g a f (nI (nd_s V)))) → va_S A s.heap H locs → lv_has ls 3 [(2, .int (nI (i))), (0, .ref (ad a)), (1, .int (nI (F)))] → W p l e R s m args below meth c H locs 0 0 Q (F0 m 33 ls []) := by
  obtain ⟨hx, hb, hml, hown, hts⟩ := S
  have in1 : ∀ w ∈ wsX10, w ∈ wsX1_shift := by decide +kernel
  intro n
  induction n with
  | zero =>
    intro i f H locs ls hn h1 h2 hP hD hS hl
    refine lv_iload_n hx hb dX1_shift_33 rfl (lv_at hl 0 rfl) ?_
    refine lv_iload_n hx hb dX1_shift_34 rfl (lv_at hl 2 rfl) ?_
    refine bi_ge (tgt := 51) hx hb dX1_shift_35 (by decide) (by omega) (by omega) (fun q => ?_) (fun q => ?_)
    · exact kk f H locs ls h1 (fun j hj => h2 j (by omega)) hP hD hS (lv_sub hl [1, 2] rfl)
    · exact absurd hn (by omega)
  | succ n ih =>
    intro i f H locs ls hn h1 h2 hP hD hS hl
    refine lv_iload_n hx hb dX1_shift_33 rfl (lv_at hl 0 rfl) ?_
    refine lv_iload_n hx hb dX1_shift_34 rfl (lv_at hl 2 rfl) ?_
    refine bi_ge (tgt := 51) hx hb dX1_shift_35 (by decide) (by omega) (by omega) (fun q => ?_) (fun q => ?_)
    · exact absurd hn (by omega)
    · refine lv_aload_n hx hb dX1_shift_38 rfl (lv_at hl 1 rfl) ?_
      refine rg_1_limbs hx hb hts in1 hown hK hP a (by omega) nw_o (hts _ (by decide +kernel)) dX1_shift_39 ?_
      refine lv_iload_n hx hb dX1_shift_42 rfl (lv_at hl 0 rfl) ?_
      refine lv_lconst (v := lN (0)) hx hb dX1_shift_43 rfl ?_
      refine rt_l hx hb hK hP hD hS (a + 1) (by omega) nw_l (by omega) (by decide) dX1_shift_44 (fun H locs hP hD hS => ?_)
      rw [nw_sl] at hP hD
      refine lv_iinc (v := nI (i + 1)) (lv' := [(2, .int (nI (i + 1))), (0, .ref (ad a)), (1, .int (nI (F)))]) hx hb dX1_shift_45 hl (k := 0) rfl (nI_inc i 1) (by decide) rfl (fun ls hl => ?_)
      refine lv_goto (tgt := 33) hx hb dX1_shift_48 (by decide) ?_
      refine ih (i + 1) _ H locs ls (by omega) (fun j hj => ?_) (fun j hj => ?_) hP hD hS hl
      · rw [pk_uLn (by omega)]; exact h1 j hj
      · rcases Nat.lt_or_ge j i with r | r
        · rw [pk_uLn (by omega)]; exact h2 j r
        · obtain rfl : j = i := by omega
          exact pk_uLs
set_option maxHeartbeats 4000000 in
set_option maxRecDepth 100000 in
/-- shift: times a power of the base -/
theorem c_X1_shift (l : Launch) (D : va_G) (cA : Nat → ClassId) (tT : Nat) (A : Nat → Prop) (N : Nat) (ad : Nat → Nat) (sz : Nat) (g : Nat → va_E) {a V F : Nat} (ha1 : a + 1 < N) (ha : is_N cA ad g a V) (hV0 : V ≠ 0) (hF : nd_s V + F ≤ 64) : Met l yX1_shift wsX1_shift ({ frames := 0, cells := 0, slots := 0, locals := 0 }) (va_Pc [.ref (ad a), .int (nI (F))] (wd_B D cA tT A N ad sz g)) (va_Qv (fun (u : Nat → va_E) => u = nN cA ad g a (V * 1000000 ^ F)) (wd_E D cA A N ad) A) 0 0 A := by
  refine Met.ofW (cc := cX1_shift) (maxL := 3) (ret := none) (by decide) rfl ?_
  intro p e s m args below meth c s₁ B hml hv
  obtain ⟨rfl, hsz, hP, hK, hD, hT⟩ := hv
  have hx := B.exec
  have hb := B.bytes
  have hr := B.returns
  have hts := atoms_spec (ws := wsX1_shift) B.pre
  have hown : s.vm.findClass RX1 = some m.cls := findClass_of_methodNamed B.named
  have hlocks := B.notSynchronized
  subst hsz
  have hS : va_S A s.heap s.heap [] := va_S.rf
  have in1 : ∀ w ∈ wsX10, w ∈ wsX1_shift := by decide +kernel
  have hl := lv_entry ([.ref (ad a), .int (nI (F))]) (n := 3) (Nat.le_of_ble_eq_true rfl)
  rw [lg_entry_eq]
  generalize (lg_sl ([.ref (ad a), .int (nI (F))]) ++ List.replicate (3 - (lg_sl ([.ref (ad a), .int (nI (F))])).length) Slot.unset).toArray = ls at hl ⊢
  have hl : lv_has ls 3 [(0, .ref (ad a)), (1, .int (nI (F)))] := hl
  rw [← nw_self ha] at hP hD
  refine lv_aload_n hx hb dX1_shift_0 rfl (lv_at hl 0 rfl) ?_
  refine rg_1_size hx hb hts in1 hown hK hP a (by omega) nw_o (hts _ (by decide +kernel)) dX1_shift_1 ?_
  refine lv_iconst (v := nI (1)) hx hb dX1_shift_4 (by decide) ?_
  refine lv_isub hx hb dX1_shift_5 ?_
  refine tp_i (y := dn (nd_s V)) (dn_sub _) ?_
  refine lv_istore_n (lv' := [(2, .int (dn (nd_s V))), (0, .ref (ad a)), (1, .int (nI (F)))]) hx hb dX1_shift_6 rfl hl (by decide) rfl (fun ls hl => ?_)
  refine lp_X1_shift1 ⟨hx, hb, hml, hown, hts⟩ hK hT ha1 hF (fun f H locs ls h1 hP hD hS hl => ?_) (nd_s V) _ _ _ ls (Nat.le_refl _) (fun j hj => by rw [nd_A, nd_A, nd_dz (nd_s_lt V) (by omega), nd_dz (nd_s_lt V) (by omega)]) (fun j _ => rfl) hP hD hS hl
  refine lv_iconst (v := nI (0)) hx hb dX1_shift_31 (by decide) ?_
  refine lv_istore_n (lv' := [(2, .int (nI (0))), (0, .ref (ad a)), (1, .int (nI (F)))]) hx hb dX1_shift_32 rfl hl (by decide) rfl (fun ls hl => ?_)
  refine lp_X1_shift2 ⟨hx, hb, hml, hown, hts⟩ hK hT ha1 hF (fun f H locs ls h1 h2 hP hD hS hl => ?_) F 0 _ _ _ ls (by omega) h1 (fun j hj => absurd hj (Nat.not_lt_zero _)) hP hD hS hl
  refine lv_aload_n hx hb dX1_shift_51 rfl (lv_at hl 0 rfl) ?_
  refine lv_dup hx hb dX1_shift_52 rfl ?_
  refine rg_1_size hx hb hts in1 hown hK hP a (by omega) nw_o (hts _ (by decide +kernel)) dX1_shift_53 ?_
  refine lv_iload_n hx hb dX1_shift_56 rfl (lv_at hl 1 rfl) ?_
  refine lv_iadd hx hb dX1_shift_57 ?_
  refine tp_i (y := nI ((nd_s V) + F)) (nI_add _ _) ?_
  refine rp_1_size hx hb hts in1 hown hK hP hD hS a (by omega) nw_o (hts _ (by decide +kernel)) rfl rfl dX1_shift_58 (fun H locs hP hD hS => ?_)
  rw [nw_so] at hP hD
  have hfe : f = nd_A (V * 1000000 ^ F) := by
    funext j
    rw [nd_A, nd_dsh]
    by_cases r : j < F
    · rw [if_pos r]; exact h2 j r
    · rw [if_neg r]; exact h1 j (by omega)
  rw [hfe, ← nd_ssh hV0] at hP hD
  exact W.vret hx hb hr (fun t ht hW => ⟨⟨_, rfl, rfl, wd_end hP hK hD ht hW⟩, hS.F ht⟩) hS.2.2 dX1_shift_61
end
section
theorem nd_kq {x k c i : Nat} (h : x * k / 1000000 ^ i = x / 1000000 ^ i * k + c) : x * k / 1000000 ^ (i + 1) = x / 1000000 ^ (i + 1) * k + (nd_d x i * k + c) / 1000000 := by
  rw [nd_q, nd_q, h, nd_d]
  generalize x / 1000000 ^ i = X
  have e : X = 1000000 * (X / 1000000) + X % 1000000 := by omega
  have e2 : X * k = 1000000 * (X / 1000000 * k) + X % 1000000 * k := by
    calc X * k = (1000000 * (X / 1000000) + X % 1000000) * k := by rw [← e]
      _ = _ := by rw [Nat.add_mul, Nat.mul_assoc]
  rw [e2]
  generalize X / 1000000 * k = A
  generalize X % 1000000 * k = C
  omega
theorem nd_kd {x k c i : Nat} (h : x * k / 1000000 ^ i = x / 1000000 ^ i * k + c) : nd_d (x * k) i = (nd_d x i * k + c) % 1000000 := by
  rw [nd_d, h, nd_d]
  generalize x / 1000000 ^ i = X
  have e : X = 1000000 * (X / 1000000) + X % 1000000 := by omega
  have e2 : X * k = 1000000 * (X / 1000000 * k) + X % 1000000 * k := by
    calc X * k = (1000000 * (X / 1000000) + X % 1000000) * k := by rw [← e]
      _ = _ := by rw [Nat.add_mul, Nat.mul_assoc]
  rw [e2]
  generalize X / 1000000 * k = A
  generalize X % 1000000 * k = C
  omega
theorem nd_kb {d k c : Nat} (hd : d < 1000000) (hk : k < 1000000) (hc : c < 1000000) : d * k + c < 1000000000000 ∧ (d * k + c) / 1000000 < 1000000 := by
  have h1 : d * k ≤ 999999 * 999999 := Nat.mul_le_mul (by omega) (by omega)
  omega
theorem nd_ks {x k : Nat} (hk : 1 ≤ k) (h : x * k / 1000000 ^ nd_s x = 0) : nd_s (x * k) = nd_s x := by
  have h1 : nd_s (x * k) ≤ nd_s x := nd_s_iff.mpr (by
    rcases Nat.lt_or_ge (x * k) (1000000 ^ nd_s x) with q | q
    · exact q
    · have := Nat.div_pos q (Nat.pow_pos (by decide)); omega)
  have h2 : nd_s x ≤ nd_s (x * k) := nd_s_iff.mpr (Nat.lt_of_le_of_lt (Nat.le_mul_of_pos_right x hk) (nd_s_lt _))
  omega
theorem nd_kS {x k : Nat} (hk : k < 1000000) : nd_s (x * k) ≤ nd_s x + 1 := nd_s_iff.mpr (by
  rw [Nat.pow_succ]
  rcases Nat.eq_zero_or_pos k with q | q
  · subst q; rw [Nat.mul_zero]; exact Nat.mul_pos (Nat.pow_pos (by decide)) (by decide)
  · exact Nat.lt_of_lt_of_le ((Nat.mul_lt_mul_right q).mpr (nd_s_lt x)) (Nat.mul_le_mul_left _ (by omega)))
theorem nd_k10 (x P : Nat) : x * 10 ^ (P % 6) * 1000000 ^ (P / 6) = x * 10 ^ P := by
  rw [nd_e6, Nat.mul_assoc, ← Nat.pow_add, show P % 6 + 6 * (P / 6) = P by omega]
set_option maxHeartbeats 4000000 in
set_option maxRecDepth 100000 in
theorem lp_X1_raise {p : Program} {l : Launch} {e : Env} {R : Room} {s : State} {m : MethodId} {args : Array Value} {below : List Frame} {meth : Method} {c : Code} {Q : State → Prop} {D : va_G} {cA : Nat → ClassId} {tT : Nat} {A : Nat → Prop} {N : Nat} {ad : Nat → Nat} {g : Nat → va_E} {a x k F : Nat} (S : CallFix p m c cX1_raise 10 s args wsX1_raise RX1) (hK : va_K D vwCl (ty_s cA) s) (hT : st_T tT A s s.heap) (ha1 : a + 1 < N) (hs64 : nd_s x ≤ 64) (hk : k < 1000000) (kk : ∀ (cv : Nat) (f : Nat → Int64) (H : Heap) (locs : List Loc) (ls : Array Slot), x * k / 1000000 ^ nd_s x = x / 1000000 ^ nd_s x * k + cv → cv < 1000000 → (∀ j, j < nd_s x → f j = nd_A (x * k) j) → (∀ j, nd_s x ≤ j → f j = nd_A x j) → va_P D vwCl (wm_W N ad (nw_ cA ad g a f (nI (nd_s x)))) H → va_D A (wm_W N ad (nw_ cA ad g a f (nI (nd_s x)))) → va_S A s.heap H locs → lv_has ls 10 [(5, .long (lN cv)), (0, .ref (ad a)), (2, .int (nI F))] → W p l e R s m args below meth c H locs 0 0 Q (F0 m 93 ls [])) :
    ∀ (n i cv : Nat) (f : Nat → Int64) (H : Heap) (locs : List Loc) (ls : Array Slot), i + n = nd_s x → x * k / 1000000 ^ i = x / 1000000 ^ i * k + cv → cv < 1000000 → (∀ j, j < i → f j = nd_A (x * k) j) → (∀ j, i ≤ j → f j = nd_A x j) → va_P D vwCl (wm_W N ad (nw_ cA ad g a f (nI (nd_s x)))) H → va_D A (wm_W N ad (nw_ cA ad g a f (nI (nd_s x)))) → va_S A s.heap H locs → lv_has ls 10 [(7, .int (nI (i))), (5, .long (lN (cv))), (3, .long (lN (k))), (0, .ref (ad a)), (2, .int (nI (F)))] → W p l e R s m args below meth c H locs 0 0 Q (F0 m 43 ls []) := by
  obtain ⟨hx, hb, hml, hown, hts⟩ := S
  have in1 : ∀ w ∈ wsX10, w ∈ wsX1_raise := by decide +kernel
  intro n
  induction n with
  | zero =>
    intro i cv f H locs ls hn hi hc h1 h2 hP hD hS hl
    refine lv_iload hx hb dX1_raise_43 (lv_at hl 0 rfl) ?_
    refine lv_aload_n hx hb dX1_raise_45 rfl (lv_at hl 3 rfl) ?_
    refine rg_1_size hx hb hts in1 hown hK hP a (by omega) nw_o (hts _ (by decide +kernel)) dX1_raise_46 ?_
    refine bi_ge (tgt := 93) hx hb dX1_raise_49 (by decide) (by omega) (by omega) (fun q => ?_) (fun q => ?_)
    · obtain rfl : i = nd_s x := by omega
      exact kk cv f H locs ls hi hc h1 h2 hP hD hS (lv_sub hl [1, 3, 4] rfl)
    · exact absurd hn (by omega)
  | succ n ih =>
    intro i cv f H locs ls hn hi hc h1 h2 hP hD hS hl
    refine lv_iload hx hb dX1_raise_43 (lv_at hl 0 rfl) ?_
    refine lv_aload_n hx hb dX1_raise_45 rfl (lv_at hl 3 rfl) ?_
    refine rg_1_size hx hb hts in1 hown hK hP a (by omega) nw_o (hts _ (by decide +kernel)) dX1_raise_46 ?_
    refine bi_ge (tgt := 93) hx hb dX1_raise_49 (by decide) (by omega) (by omega) (fun q => ?_) (fun q => ?_)
    · exact absurd hn (by omega)
    · have hkb := nd_kb (nd_lt x i) hk hc
      refine lv_aload_n hx hb dX1_raise_52 rfl (lv_at hl 3 rfl) ?_
      refine rg_1_limbs hx hb hts in1 hown hK hP a (by omega) nw_o (hts _ (by decide +kernel)) dX1_raise_53 ?_
      refine lv_iload hx hb dX1_raise_56 (lv_at hl 0 rfl) ?_
      refine rn_l hx hb hK hP (a + 1) (by omega) nw_l (by omega) (by decide) dX1_raise_58 ?_
      refine tp_l (y := lN (nd_d x i)) (h2 i (Nat.le_refl i)) ?_
      refine lv_lload_n hx hb dX1_raise_59 rfl (lv_at hl 2 rfl) ?_
      refine lv_lmul hx hb dX1_raise_60 ?_
      refine tp_l (y := lN ((nd_d x i) * k)) (lN_mul _ _) ?_
      refine lv_lload hx hb dX1_raise_61 (lv_at hl 1 rfl) ?_
      refine lv_ladd hx hb dX1_raise_63 ?_
      refine tp_l (y := lN (((nd_d x i) * k) + cv)) (lN_add _ _) ?_
      refine lv_lstore (lv' := [(8, .long (lN (((nd_d x i) * k) + cv))), (7, .int (nI (i))), (5, .long (lN (cv))), (3, .long (lN (k))), (0, .ref (ad a)), (2, .int (nI (F)))]) hx hb dX1_raise_64 hl (by decide) rfl (fun ls hl => ?_)
      refine lv_aload_n hx hb dX1_raise_66 rfl (lv_at hl 4 rfl) ?_
      refine rg_1_limbs hx hb hts in1 hown hK hP a (by omega) nw_o (hts _ (by decide +kernel)) dX1_raise_67 ?_
      refine lv_iload hx hb dX1_raise_70 (lv_at hl 1 rfl) ?_
      refine lv_lload hx hb dX1_raise_72 (lv_at hl 0 rfl) ?_
      refine lv_ldc2 (v := lN (1000000)) hx hb hown (hts _ (by decide +kernel)) dX1_raise_74 ?_
      refine lv_lrem hx hb dX1_raise_77 (lN_ne0 (by omega) (by omega)) ?_
      refine tp_l (y := lN ((((nd_d x i) * k) + cv) % 1000000)) (pk_lRem (by omega) (by omega) (by omega)) ?_
      refine rt_l hx hb hK hP hD hS (a + 1) (by omega) nw_l (by omega) (by decide) dX1_raise_78 (fun H locs hP hD hS => ?_)
      rw [nw_sl] at hP hD
      refine lv_lload hx hb dX1_raise_79 (lv_at hl 0 rfl) ?_
      refine lv_ldc2 (v := lN (1000000)) hx hb hown (hts _ (by decide +kernel)) dX1_raise_81 ?_
      refine lv_ldiv hx hb dX1_raise_84 (lN_ne0 (by omega) (by omega)) ?_
      refine tp_l (y := lN ((((nd_d x i) * k) + cv) / 1000000)) (pk_lDiv (by omega) (by omega) (by omega)) ?_
      refine lv_lstore (lv' := [(5, .long (lN ((((nd_d x i) * k) + cv) / 1000000))), (8, .long (lN (((nd_d x i) * k) + cv))), (7, .int (nI (i))), (3, .long (lN (k))), (0, .ref (ad a)), (2, .int (nI (F)))]) hx hb dX1_raise_85 hl (by decide) rfl (fun ls hl => ?_)
      refine lv_iinc (v := nI (i + 1)) (lv' := [(7, .int (nI (i + 1))), (5, .long (lN ((((nd_d x i) * k) + cv) / 1000000))), (8, .long (lN (((nd_d x i) * k) + cv))), (3, .long (lN (k))), (0, .ref (ad a)), (2, .int (nI (F)))]) hx hb dX1_raise_87 hl (k := 2) rfl (nI_inc i 1) (by decide) rfl (fun ls hl => ?_)
      refine lv_goto (tgt := 43) hx hb dX1_raise_90 (by decide) ?_
      refine ih (i + 1) _ _ H locs ls (by omega) (nd_kq hi) hkb.2 (fun j hj => ?_) (fun j hj => ?_) hP hD hS (lv_sub hl [0, 1, 3, 4, 5] rfl)
      · rcases Nat.lt_or_ge j i with r | r
        · rw [pk_uLn (by omega)]; exact h1 j r
        · obtain rfl : j = i := by omega
          rw [pk_uLs, nd_A, nd_kd hi]
      · rw [pk_uLn (by omega)]; exact h2 j (by omega)
set_option maxHeartbeats 4000000 in
set_option maxRecDepth 100000 in
/-- raise: times a power of ten -/
theorem c_X1_raise (l : Launch) (D : va_G) (cA : Nat → ClassId) (tT : Nat) (A : Nat → Prop) (N : Nat) (ad : Nat → Nat) (sz : Nat) (g : Nat → va_E) {a x P : Nat} (ha1 : a + 1 < N) (ha : is_N cA ad g a x) (hP9 : P < 1000) (hF : nd_s x + P / 6 < 64) : Met l yX1_raise wsX1_raise ({ frames := 1, cells := 0, slots := 0, locals := 23 }) (va_Pc [.ref (ad a), .int (nI (P))] (wd_B D cA tT A N ad sz g)) (va_Qv (fun (u : Nat → va_E) => u = nN cA ad g a (x * 10 ^ P)) (wd_E D cA A N ad) A) 0 0 A := by
  refine Met.ofW (cc := cX1_raise) (maxL := 10) (ret := none) (by decide) rfl ?_
  intro p e s m args below meth c s₁ B hml hv
  obtain ⟨rfl, hsz, hP, hK, hD, hT⟩ := hv
  have hx := B.exec
  have hb := B.bytes
  have hr := B.returns
  have hts := atoms_spec (ws := wsX1_raise) B.pre
  have hown : s.vm.findClass RX1 = some m.cls := findClass_of_methodNamed B.named
  have hlocks := B.notSynchronized
  subst hsz
  have hS : va_S A s.heap s.heap [] := va_S.rf
  have in1 : ∀ w ∈ wsX10, w ∈ wsX1_raise := by decide +kernel
  have hl := lv_entry ([.ref (ad a), .int (nI (P))]) (n := 10) (Nat.le_of_ble_eq_true rfl)
  rw [lg_entry_eq]
  generalize (lg_sl ([.ref (ad a), .int (nI (P))]) ++ List.replicate (10 - (lg_sl ([.ref (ad a), .int (nI (P))])).length) Slot.unset).toArray = ls at hl ⊢
  have hl : lv_has ls 10 [(0, .ref (ad a)), (1, .int (nI (P)))] := hl
  have ht6 := nd_t6 P
  rw [← nw_self ha] at hP hD
  refine lv_iload_n hx hb dX1_raise_0 rfl (lv_at hl 1 rfl) ?_
  refine lv_bipush (v := nI (6)) hx hb dX1_raise_1 (by decide) ?_
  refine lv_idiv hx hb dX1_raise_3 (nI_ne0 (by omega) (by omega)) ?_
  refine tp_i (y := nI (P / 6)) (pk_div (by omega) (by omega) (by omega)) ?_
  refine lv_istore_n (lv' := [(2, .int (nI (P / 6))), (0, .ref (ad a)), (1, .int (nI (P)))]) hx hb dX1_raise_4 rfl hl (by decide) rfl (fun ls hl => ?_)
  refine lv_aload_n hx hb dX1_raise_5 rfl (lv_at hl 1 rfl) ?_
  refine rg_1_size hx hb hts in1 hown hK hP a (by omega) nw_o (hts _ (by decide +kernel)) dX1_raise_6 ?_
  refine bz_eq (tgt := 27) hx hb dX1_raise_9 (by decide) (by omega) (fun q => ?_) (fun q => ?_)
  · exact W.vret hx hb hr (fun t ht hW => ⟨⟨_, rfl, by rw [nd_s_z.mp q, Nat.zero_mul], wd_end hP hK hD ht hW⟩, hS.F ht⟩) hS.2.2 dX1_raise_27
  · refine lv_iload_n hx hb dX1_raise_12 rfl (lv_at hl 2 rfl) ?_
    refine bz_le (tgt := 27) hx hb dX1_raise_13 (by decide) (by omega) (fun q2 => ?_) (fun q2 => ?_)
    · exact W.vret hx hb hr (fun t ht hW => ⟨⟨_, rfl, by rw [show P = 0 by omega, Nat.pow_zero, Nat.mul_one], wd_end hP hK hD ht hW⟩, hS.F ht⟩) hS.2.2 dX1_raise_27
    · refine lv_aload_n hx hb dX1_raise_16 rfl (lv_at hl 1 rfl) ?_
      refine rg_1_size hx hb hts in1 hown hK hP a (by omega) nw_o (hts _ (by decide +kernel)) dX1_raise_17 ?_
      refine lv_iload_n hx hb dX1_raise_20 rfl (lv_at hl 0 rfl) ?_
      refine lv_iadd hx hb dX1_raise_21 ?_
      refine tp_i (y := nI ((nd_s x) + (P / 6))) (nI_add _ _) ?_
      refine lv_bipush (v := nI (64)) hx hb dX1_raise_22 (by decide) ?_
      refine bi_lt (tgt := 28) hx hb dX1_raise_24 (by decide) (by omega) (by omega) (fun q3 => ?_) (fun q3 => ?_)
      · refine va_gets hx hb hT.1 hS hown (hts _ (by decide +kernel)) (fun _ h => h) dX1_raise_28 ?_
        refine lv_iload_n hx hb dX1_raise_31 rfl (lv_at hl 2 rfl) ?_
        refine lv_bipush (v := nI (6)) hx hb dX1_raise_32 (by decide) ?_
        refine lv_irem hx hb dX1_raise_34 (nI_ne0 (by omega) (by omega)) ?_
        refine tp_i (y := nI (P % 6)) (pk_rem (by omega) (by omega) (by omega)) ?_
        refine va_tl hx hb hT.2 hS (vp_in_nI (n := P % 6) (by omega) (by decide)) (v := .long (lN (10 ^ (P % 6)))) (by rw [nI_clamp (by omega)]) dX1_raise_35 ?_
        refine lv_lstore_n (lv' := [(3, .long (lN (10 ^ (P % 6)))), (2, .int (nI (P / 6))), (0, .ref (ad a)), (1, .int (nI (P)))]) hx hb dX1_raise_36 rfl hl (by decide) rfl (fun ls hl => ?_)
        refine lv_lconst (v := lN (0)) hx hb dX1_raise_37 rfl ?_
        refine lv_lstore (lv' := [(5, .long (lN (0))), (3, .long (lN (10 ^ (P % 6)))), (2, .int (nI (P / 6))), (0, .ref (ad a)), (1, .int (nI (P)))]) hx hb dX1_raise_38 hl (by decide) rfl (fun ls hl => ?_)
        refine lv_iconst (v := nI (0)) hx hb dX1_raise_40 (by decide) ?_
        refine lv_istore (lv' := [(7, .int (nI (0))), (5, .long (lN (0))), (3, .long (lN (10 ^ (P % 6)))), (2, .int (nI (P / 6))), (0, .ref (ad a)), (1, .int (nI (P)))]) hx hb dX1_raise_41 hl (by decide) rfl (fun ls hl => ?_)
        refine lp_X1_raise (k := 10 ^ (P % 6)) (F := P / 6) ⟨hx, hb, hml, hown, hts⟩ hK hT ha1 (by omega) ht6.2 (fun cv f H locs ls hi hc h1 h2 hP hD hS hl => ?_) (nd_s x) 0 0 _ _ _ ls (by omega) (by simp only [nd_q0]; omega) (by decide) (fun j hj => absurd hj (Nat.not_lt_zero _)) (fun j _ => rfl) hP hD hS (lv_sub hl [0, 1, 2, 4, 3] rfl)
        have hx0 : x ≠ 0 := fun z => q (nd_s_z.mpr z)
        rw [nd_qz (nd_s_lt x) (Nat.le_refl _), Nat.zero_mul, Nat.zero_add] at hi
        have hkS := nd_kS (x := x) ht6.2
        refine lv_aload_n hx hb dX1_raise_93 rfl (lv_at hl 1 rfl) ?_
        refine lv_aload_n hx hb dX1_raise_94 rfl (lv_at hl 1 rfl) ?_
        refine rg_1_size hx hb hts in1 hown hK hP a (by omega) nw_o (hts _ (by decide +kernel)) dX1_raise_95 ?_
        refine lv_lload hx hb dX1_raise_98 (lv_at hl 0 rfl) ?_
        refine va_callv (va_runV (As := [.int (nI (nd_s x)), .long (lN (cv))]) (rest := []) ⟨hx, hb, hml, hown, hts⟩ (c_X1_close l D cA tT A N ad _ g (a := a) (V := x * 10 ^ (P % 6)) (k := nd_s x) (cv := cv) (f := f) (sv := nI (nd_s x)) ha1 (by omega) (nd_s_iff.mp (by omega)) hi.symm hc (fun h0 => nd_ks ht6.1 (by omega)) h1 (fun j hj => by rw [h2 j hj, nd_A, nd_dz (nd_s_lt x) hj])) (cwV 2 hts gX1_raise_X1_close rfl rfl rfl (by decide +kernel) ⟨Nat.le_of_ble_eq_true rfl, Nat.le_of_ble_eq_true rfl⟩) (wd_preV (k := a) hP hK hD hT hS (by omega) nw_o rfl) rfl rfl hl.1 rfl (lv_room (Nat.le_of_ble_eq_true rfl)) dX1_raise_100 ⟨Nat.zero_le _, Nat.zero_le _⟩) hS id_2 id_1 (fun u t H locs ht hvm hw hB hz1 hk1 hS => ?_)
        obtain ⟨hP, hD⟩ := wd_back ht hB
        clear ht hvm hB hz1 hk1
        rw [hw] at hP hD
        clear hw
        refine lv_aload_n hx hb dX1_raise_103 rfl (lv_at hl 1 rfl) ?_
        refine lv_iload_n hx hb dX1_raise_104 rfl (lv_at hl 2 rfl) ?_
        refine va_callv (va_runV (As := [.int (nI (P / 6))]) (rest := []) ⟨hx, hb, hml, hown, hts⟩ (c_X1_shift l D cA tT A N ad _ _ (a := a) (V := x * 10 ^ (P % 6)) (F := P / 6) ha1 nN_is (Nat.mul_ne_zero hx0 (by omega)) (by omega)) (cwV 1 hts gX1_raise_X1_shift rfl rfl rfl (by decide +kernel) ⟨Nat.le_of_ble_eq_true rfl, Nat.le_of_ble_eq_true rfl⟩) (wd_preV (k := a) hP hK hD hT hS (by omega) nw_o rfl) rfl rfl hl.1 rfl (lv_room (Nat.le_of_ble_eq_true rfl)) dX1_raise_105 ⟨Nat.zero_le _, Nat.zero_le _⟩) hS id_2 id_1 (fun u t H locs ht hvm hw hB hz1 hk1 hS => ?_)
        obtain ⟨hP, hD⟩ := wd_back ht hB
        clear ht hvm hB hz1 hk1
        rw [hw] at hP hD
        clear hw
        rw [nN, nw_nw, nd_k10] at hP hD
        exact W.vret hx hb hr (fun t ht hW => ⟨⟨_, rfl, rfl, wd_end hP hK hD ht hW⟩, hS.F ht⟩) hS.2.2 dX1_raise_108
      · exact absurd hF (by omega)
theorem sz_4 {M : Nat} (h : M ≤ 9223372036854775808) : nd_s M ≤ 4 := nd_s_iff.mpr (by omega)
theorem vl_abs (v : Int64) : v.toInt.natAbs ≤ 9223372036854775808 := by
  have h1 := Int64.le_toInt v
  have h2 := Int64.toInt_lt v
  omega
theorem nd_ge0 {M i : Nat} (h : M / 1000000 ^ i ≠ 0) : i < nd_s M := nd_s_gt.mpr (by
  rcases Nat.lt_or_ge M (1000000 ^ i) with q | q
  · exact absurd (Nat.div_eq_of_lt q) h
  · exact q)
theorem nd_le0 {M i : Nat} (h : M / 1000000 ^ i = 0) : nd_s M ≤ i := nd_s_iff.mpr (by
  rcases Nat.lt_or_ge M (1000000 ^ i) with q | q
  · exact q
  · have := Nat.div_pos q (Nat.pow_pos (by decide)); omega)
set_option maxHeartbeats 4000000 in
set_option maxRecDepth 100000 in
theorem lp_X1_becomeSizeOf {p : Program} {l : Launch} {e : Env} {R : Room} {s : State} {m : MethodId} {args : Array Value} {below : List Frame} {meth : Method} {c : Code} {Q : State → Prop} {D : va_G} {cA : Nat → ClassId} {tT : Nat} {A : Nat → Prop} {N : Nat} {ad : Nat → Nat} {g : Nat → va_E} {a M : Nat} {b : Bool} (S : CallFix p m c cX1_becomeSizeOf 6 s args wsX1_becomeSizeOf RX1) (hK : va_K D vwCl (ty_s cA) s) (hT : st_T tT A s s.heap) (hRf : 1 ≤ R.frames) (hRl : 20 ≤ R.locals) (ha1 : a + 1 < N) (hM : M ≤ 9223372036854775808) (hb1 : -9223372036854775808 ≤ sg b M) (hb2 : sg b M < 9223372036854775808) (kk : ∀ (H : Heap) (locs : List Loc) (ls : Array Slot), va_P D vwCl (wm_W N ad (nN cA ad g a M)) H → va_D A (wm_W N ad (nN cA ad g a M)) → va_S A s.heap H locs → W p l e R s m args below meth c H locs 0 0 Q (F0 m 57 ls [])) :
    ∀ (n i : Nat) (f : Nat → Int64) (H : Heap) (locs : List Loc) (ls : Array Slot), nd_s M - i < n → i ≤ nd_s M → (∀ j, j < i → f j = nd_A M j) → (∀ j, i ≤ j → f j = lN 0) → va_P D vwCl (wm_W N ad (nw_ cA ad g a f (nI i))) H → va_D A (wm_W N ad (nw_ cA ad g a f (nI i))) → va_S A s.heap H locs → lv_has ls 6 [(5, .int (nI (i))), (3, .long (lZ (sg b (M / 1000000 ^ i)))), (0, .ref (ad a))] → W p l e R s m args below meth c H locs 0 0 Q (F0 m 9 ls []) := by
  obtain ⟨hx, hb, hml, hown, hts⟩ := S
  have in1 : ∀ w ∈ wsX10, w ∈ wsX1_becomeSizeOf := by decide +kernel
  have h4 := sz_4 hM
  intro n
  induction n with
  | zero => intro i f H locs ls hn; exact absurd hn (Nat.not_lt_zero _)
  | succ n ih =>
    intro i f H locs ls hn hi h1 h2 hP hD hS hl
    have hq9 := sg_le (Nat.div_le_self M (1000000 ^ i)) hb1 hb2
    have hr9 : M / 1000000 ^ i % 1000000 < 1000000 := Nat.mod_lt _ (by decide)
    refine lv_iload hx hb dX1_becomeSizeOf_9 (lv_at hl 0 rfl) ?_
    refine lv_bipush (v := nI (64)) hx hb dX1_becomeSizeOf_11 (by decide) ?_
    refine bi_ge (tgt := 57) hx hb dX1_becomeSizeOf_13 (by decide) (by omega) (by omega) (fun q => ?_) (fun q => ?_)
    · exact absurd q (by omega)
    · refine lv_lload_n hx hb dX1_becomeSizeOf_16 rfl (lv_at hl 1 rfl) ?_
      refine lv_lconst (v := lN (0)) hx hb dX1_becomeSizeOf_17 rfl ?_
      refine bL_eq (tgt := 57) hx hb dX1_becomeSizeOf_18 dX1_becomeSizeOf_19 (by decide) (fun q2 => ?_) (fun q2 => ?_)
      · have hz : M / 1000000 ^ i = 0 := by
          rw [lZ_nat 0, lZ_eq hq9.1 hq9.2 (by decide) (by decide)] at q2
          rw [← sg_abs b (M / 1000000 ^ i), q2]; rfl
        have hie : i = nd_s M := by have := nd_le0 hz; omega
        have hfe : f = nd_A M := by
          funext j
          rcases Nat.lt_or_ge j i with r | r
          · exact h1 j r
          · rw [h2 j r, nd_A, nd_dz (nd_s_lt M) (by omega)]
        rw [hfe, hie] at hP hD
        exact kk H locs ls hP hD hS
      · have hnz : M / 1000000 ^ i ≠ 0 := by
          intro hz
          rw [hz] at q2
          exact q2 (by cases b <;> decide)
        have hii := nd_ge0 hnz
        refine lv_aload_n hx hb dX1_becomeSizeOf_22 rfl (lv_at hl 2 rfl) ?_
        refine rg_1_limbs hx hb hts in1 hown hK hP a (by omega) nw_o (hts _ (by decide +kernel)) dX1_becomeSizeOf_23 ?_
        refine lv_iload hx hb dX1_becomeSizeOf_26 (lv_at hl 0 rfl) ?_
        refine lv_lload_n hx hb dX1_becomeSizeOf_28 rfl (lv_at hl 1 rfl) ?_
        refine lv_ldc2 (v := lN (1000000)) hx hb hown (hts _ (by decide +kernel)) dX1_becomeSizeOf_29 ?_
        refine lv_lrem hx hb dX1_becomeSizeOf_32 (lN_ne0 (by omega) (by omega)) ?_
        refine tp_l (y := lZ (sg b (M / 1000000 ^ i % 1000000))) (lZ_rem hq9.1 hq9.2 (by decide)) ?_
        refine va_mabs_long hx hb (by rw [hml]; exact hl.1.symm) hown (hts _ (by decide +kernel)) (hts _ (by decide +kernel)) (hts _ (by decide +kernel)) (hts _ (by decide +kernel)) hRf (Nat.le_trans (Nat.le_of_ble_eq_true rfl) hRl) (Nat.zero_le _) (Nat.zero_le _) dX1_becomeSizeOf_33 ?_
        refine tp_l (y := lN (M / 1000000 ^ i % 1000000)) (lZ_abs (by omega)) ?_
        refine rt_l hx hb hK hP hD hS (a + 1) (by omega) nw_l (by omega) (by decide) dX1_becomeSizeOf_36 (fun H locs hP hD hS => ?_)
        rw [nw_sl] at hP hD
        refine lv_lload_n hx hb dX1_becomeSizeOf_37 rfl (lv_at hl 1 rfl) ?_
        refine lv_ldc2 (v := lN (1000000)) hx hb hown (hts _ (by decide +kernel)) dX1_becomeSizeOf_38 ?_
        refine lv_ldiv hx hb dX1_becomeSizeOf_41 (lN_ne0 (by omega) (by omega)) ?_
        refine tp_l (y := lZ (sg b (M / 1000000 ^ (i + 1)))) ((lZ_div hq9.1 hq9.2 (by decide)).trans (by rw [nd_q])) ?_
        refine lv_lstore_n (lv' := [(3, .long (lZ (sg b (M / 1000000 ^ (i + 1))))), (5, .int (nI (i))), (0, .ref (ad a))]) hx hb dX1_becomeSizeOf_42 rfl hl (by decide) rfl (fun ls hl => ?_)
        refine lv_aload_n hx hb dX1_becomeSizeOf_43 rfl (lv_at hl 2 rfl) ?_
        refine lv_iload hx hb dX1_becomeSizeOf_44 (lv_at hl 1 rfl) ?_
        refine lv_iconst (v := nI (1)) hx hb dX1_becomeSizeOf_46 (by decide) ?_
        refine lv_iadd hx hb dX1_becomeSizeOf_47 ?_
        refine tp_i (y := nI (i + 1)) (nI_add _ _) ?_
        refine rp_1_size hx hb hts in1 hown hK hP hD hS a (by omega) nw_o (hts _ (by decide +kernel)) rfl rfl dX1_becomeSizeOf_48 (fun H locs hP hD hS => ?_)
        rw [nw_so] at hP hD
        refine lv_iinc (v := nI (i + 1)) (lv' := [(5, .int (nI (i + 1))), (3, .long (lZ (sg b (M / 1000000 ^ (i + 1))))), (0, .ref (ad a))]) hx hb dX1_becomeSizeOf_51 hl (k := 1) rfl (nI_inc i 1) (by decide) rfl (fun ls hl => ?_)
        refine lv_goto (tgt := 9) hx hb dX1_becomeSizeOf_54 (by decide) ?_
        refine ih (i + 1) _ H locs ls (by omega) (by omega) (fun j hj => ?_) (fun j hj => ?_) hP hD hS (lv_sub hl [0, 1, 2] rfl)
        · rcases Nat.lt_or_ge j i with r | r
          · rw [pk_uLn (by omega)]; exact h1 j r
          · obtain rfl : j = i := by omega
            rw [pk_uLs]; rfl
        · rw [pk_uLn (by omega)]; exact h2 j (by omega)
set_option maxHeartbeats 4000000 in
set_option maxRecDepth 100000 in
/-- becomeSizeOf: the size of a long -/
theorem c_X1_becomeSizeOf (l : Launch) (D : va_G) (cA : Nat → ClassId) (tT : Nat) (A : Nat → Prop) (N : Nat) (ad : Nat → Nat) (sz : Nat) (g : Nat → va_E) {a x : Nat} {v : Int64} (ha1 : a + 1 < N) (ha : is_N cA ad g a x) (hx64 : x < 1000000 ^ 64) : Met l yX1_becomeSizeOf wsX1_becomeSizeOf ({ frames := 1, cells := 0, slots := 0, locals := 21 }) (va_Pc [.ref (ad a), .long (v)] (wd_B D cA tT A N ad sz g)) (va_Qv (fun (u : Nat → va_E) => u = nN cA ad g a v.toInt.natAbs) (wd_E D cA A N ad) A) 0 0 A := by
  refine Met.ofW (cc := cX1_becomeSizeOf) (maxL := 6) (ret := none) (by decide) rfl ?_
  intro p e s m args below meth c s₁ B hml hv
  obtain ⟨rfl, hsz, hP, hK, hD, hT⟩ := hv
  have hx := B.exec
  have hb := B.bytes
  have hr := B.returns
  have hts := atoms_spec (ws := wsX1_becomeSizeOf) B.pre
  have hown : s.vm.findClass RX1 = some m.cls := findClass_of_methodNamed B.named
  have hlocks := B.notSynchronized
  subst hsz
  have hS : va_S A s.heap s.heap [] := va_S.rf
  have in1 : ∀ w ∈ wsX10, w ∈ wsX1_becomeSizeOf := by decide +kernel
  have hl := lv_entry ([.ref (ad a), .long (v)]) (n := 6) (Nat.le_of_ble_eq_true rfl)
  rw [lg_entry_eq]
  generalize (lg_sl ([.ref (ad a), .long (v)]) ++ List.replicate (6 - (lg_sl ([.ref (ad a), .long (v)])).length) Slot.unset).toArray = ls at hl ⊢
  have hl : lv_has ls 6 [(0, .ref (ad a)), (1, .long (v))] := hl
  refine lv_aload_n hx hb dX1_becomeSizeOf_0 rfl (lv_at hl 0 rfl) ?_
  refine va_callv (va_runV (As := []) (rest := []) ⟨hx, hb, hml, hown, hts⟩ (c_X1_clear l D cA tT A N ad _ _ (a := a) (x := x) ha1 ha hx64) (cwV 0 hts gX1_becomeSizeOf_X1_clear rfl rfl rfl (by decide +kernel) ⟨Nat.le_of_ble_eq_true rfl, Nat.le_of_ble_eq_true rfl⟩) (wd_preV (k := a) hP hK hD hT hS (by omega) ha.1 rfl) rfl rfl hl.1 rfl (lv_room (Nat.le_of_ble_eq_true rfl)) dX1_becomeSizeOf_1 ⟨Nat.zero_le _, Nat.zero_le _⟩) hS id_2 id_1 (fun u t H locs ht hvm hw hB hz1 hk1 hS => ?_)
  obtain ⟨hP, hD⟩ := wd_back ht hB
  clear ht hvm hB hz1 hk1
  rw [hw] at hP hD
  clear hw
  have hve : v = lZ (sg (decide (v.toInt < 0)) (v.toInt.natAbs / 1000000 ^ 0)) := by rw [nd_q0, sg_of, lZ_self]
  have hv1 := Int64.le_toInt v
  have hv2 := Int64.toInt_lt v
  refine lv_lload_n hx hb dX1_becomeSizeOf_4 rfl (lv_at hl 1 rfl) ?_
  refine lv_lstore_n (lv' := [(3, .long (v)), (0, .ref (ad a)), (1, .long (v))]) hx hb dX1_becomeSizeOf_5 rfl hl (by decide) rfl (fun ls hl => ?_)
  refine lv_iconst (v := nI (0)) hx hb dX1_becomeSizeOf_6 (by decide) ?_
  refine lv_istore (lv' := [(5, .int (nI (0))), (3, .long (v)), (0, .ref (ad a)), (1, .long (v))]) hx hb dX1_becomeSizeOf_7 hl (by decide) rfl (fun ls hl => ?_)
  refine lp_X1_becomeSizeOf (M := v.toInt.natAbs) (b := decide (v.toInt < 0)) ⟨hx, hb, hml, hown, hts⟩ hK hT (Nat.le_of_ble_eq_true rfl) (Nat.le_of_ble_eq_true rfl) ha1 (vl_abs v) (by rw [sg_of]; exact hv1) (by rw [sg_of]; exact hv2) (fun H locs ls hP hD hS => ?_) (nd_s v.toInt.natAbs + 1) 0 (nd_A 0) _ _ ls (by omega) (Nat.zero_le _) (fun j hj => absurd hj (Nat.not_lt_zero _)) (fun j _ => by rw [nd_A, nd_d0]) (by rw [nN, nd_s0] at hP; exact hP) (by rw [nN, nd_s0] at hD; exact hD) hS (by rw [← hve]; exact lv_sub hl [0, 1, 2] rfl)
  exact W.vret hx hb hr (fun t ht hW => ⟨⟨_, rfl, rfl, wd_end hP hK hD ht hW⟩, hS.F ht⟩) hS.2.2 dX1_becomeSizeOf_57
end
section
/-- limbs of numbers: a function of numbers as limbs -/
def nf (F : Nat → Nat) : Nat → Int64 := fun j => lN (F j)
theorem nf_up (F : Nat → Nat) (k v : Nat) : vp_updL (nf F) k (lN v) = nf (va_up F k v) := by
  funext j
  simp only [vp_updL, nf, va_up]
  by_cases h : j = k <;> simp [h]
theorem nd_v_up {F : Nat → Nat} {k v : Nat} : ∀ {K : Nat}, k < K → nd_v (va_up F k v) K + F k * 1000000 ^ k = nd_v F K + v * 1000000 ^ k := by
  intro K
  induction K with
  | zero => intro h; omega
  | succ K ih =>
    intro h
    rcases Nat.lt_or_ge k K with r | r
    · rw [nd_v, nd_v, va_up_ne _ _ (by omega)]
      have := ih r
      omega
    · obtain rfl : k = K := by omega
      rw [nd_v, nd_v, va_up_self, nd_v_congr (g := F) (fun j hj => va_up_ne _ _ (by omega))]
      omega
theorem pd_step {VF VF' Av sv p dx dy cv Rv Bi Bm ym yM : Nat} (h1 : VF' + Av * p = VF + sv % 1000000 * p) (h2 : VF + cv * p = Rv + dx * Bi * ym) (hs : sv = Av + dx * dy + cv) (hp : p = Bi * Bm) (hy : yM = ym + Bm * dy) : VF' + sv / 1000000 * (p * 1000000) = Rv + dx * Bi * yM := by
  have e1 : sv / 1000000 * (p * 1000000) + sv % 1000000 * p = sv * p := by
    rw [Nat.mul_comm p 1000000, ← Nat.mul_assoc, ← Nat.add_mul]
    congr 1; omega
  have e2 : sv * p = Av * p + dx * dy * p + cv * p := by rw [hs, Nat.add_mul, Nat.add_mul]
  have e3 : dx * Bi * yM = dx * Bi * ym + dx * dy * p := by
    rw [hy, Nat.mul_add, hp]; congr 1; simp only [Nat.mul_comm, Nat.mul_left_comm]
  omega
theorem pd_b {A dx dy cv : Nat} (hA : A < 1000000) (hx : dx < 1000000) (hy : dy < 1000000) (hc : cv < 1000000) : A + dx * dy + cv < 1000000000000 ∧ (A + dx * dy + cv) / 1000000 < 1000000 ∧ dx * dy < 1000000000000 := by
  have h1 : dx * dy ≤ 999999 * 999999 := Nat.mul_le_mul (by omega) (by omega)
  omega
theorem nd_ms (y m : Nat) : y % 1000000 ^ (m + 1) = y % 1000000 ^ m + 1000000 ^ m * nd_d y m := by
  rw [nd_d, Nat.pow_succ, Nat.mod_mul]
theorem pd_out {VF VF' cv p Bi Bs dx xm xM y : Nat} (h1 : VF' + 0 * (Bi * Bs) = VF + cv * (Bi * Bs)) (h2 : VF + cv * (Bi * Bs) = xm * y + dx * Bi * y) (hx : xM = xm + Bi * dx) : VF' = xM * y := by
  rw [hx, Nat.add_mul, Nat.mul_comm Bi dx]; omega
theorem pd_fin {F : Nat → Nat} {V : Nat} (hF : ∀ j, F j < 1000000) (hz : ∀ j, 64 ≤ j → F j = 0) (hv : nd_v F 64 = V) : nf F = nd_A V := by
  have hV : V < 1000000 ^ 64 := by rw [← hv]; exact nd_v_lt (fun j _ => hF j)
  funext j
  rw [nf, nd_A]
  rcases Nat.lt_or_ge j 64 with r | r
  · rw [← hv, nd_v_d (fun j _ => hF j) j r]
  · rw [hz j r, nd_dz hV r]
set_option maxHeartbeats 4000000 in
set_option maxRecDepth 100000 in
theorem lp_X1_product1 {p : Program} {l : Launch} {e : Env} {R : Room} {s : State} {m : MethodId} {args : Array Value} {below : List Frame} {meth : Method} {c : Code} {Q : State → Prop} {D : va_G} {cA : Nat → ClassId} {tT : Nat} {A : Nat → Prop} {N : Nat} {ad : Nat → Nat} {g : Nat → va_E} {a j1 j2 x y i : Nat} (S : CallFix p m c cX1_becomeProduct 9 s args wsX1_becomeProduct RX1) (hK : va_K D vwCl (ty_s cA) s) (hT : st_T tT A s s.heap) (ha1 : a + 1 < N) (hj11 : j1 + 1 < N) (hj21 : j2 + 1 < N) (hj1 : is_N cA ad g j1 x) (hj2 : is_N cA ad g j2 y) (n1 : a ≠ j1) (n2 : a ≠ j1 + 1) (n3 : a + 1 ≠ j1) (m1 : a ≠ j2) (m2 : a ≠ j2 + 1) (m3 : a + 1 ≠ j2) (hxy : nd_s x + nd_s y ≤ 64) (hi : i < nd_s x) (kk : ∀ (cv : Nat) (F : Nat → Nat) (H : Heap) (locs : List Loc) (ls : Array Slot), (∀ j, F j < 1000000) → (∀ j, i + nd_s y ≤ j → F j = 0) → nd_v F 64 + cv * 1000000 ^ (i + nd_s y) = x % 1000000 ^ i * y + nd_d x i * 1000000 ^ i * (y % 1000000 ^ nd_s y) → cv < 1000000 → va_P D vwCl (wm_W N ad (nw_ cA ad g a (nf F) (nI 0))) H → va_D A (wm_W N ad (nw_ cA ad g a (nf F) (nI 0))) → va_S A s.heap H locs → lv_has ls 9 [(4, .long (lN cv)), (3, .int (nI i)), (0, .ref (ad a)), (1, .ref (ad j1)), (2, .ref (ad j2))] → W p l e R s m args below meth c H locs 0 0 Q (F0 m 102 ls [])) :
    ∀ (n k cv : Nat) (F : Nat → Nat) (H : Heap) (locs : List Loc) (ls : Array Slot), k + n = nd_s y → (∀ j, F j < 1000000) → (∀ j, i + nd_s y ≤ j → F j = 0) → nd_v F 64 + cv * 1000000 ^ (i + k) = x % 1000000 ^ i * y + nd_d x i * 1000000 ^ i * (y % 1000000 ^ k) → cv < 1000000 → va_P D vwCl (wm_W N ad (nw_ cA ad g a (nf F) (nI 0))) H → va_D A (wm_W N ad (nw_ cA ad g a (nf F) (nI 0))) → va_S A s.heap H locs → lv_has ls 9 [(6, .int (nI (k))), (4, .long (lN (cv))), (3, .int (nI (i))), (0, .ref (ad a)), (1, .ref (ad j1)), (2, .ref (ad j2))] → W p l e R s m args below meth c H locs 0 0 Q (F0 m 35 ls []) := by
  obtain ⟨hx, hb, hml, hown, hts⟩ := S
  have in1 : ∀ w ∈ wsX10, w ∈ wsX1_becomeProduct := by decide +kernel
  intro n
  induction n with
  | zero =>
    intro k cv F H locs ls hn h1 h2 h3 h4 hP hD hS hl
    refine lv_iload hx hb dX1_becomeProduct_35 (lv_at hl 0 rfl) ?_
    refine lv_aload_n hx hb dX1_becomeProduct_37 rfl (lv_at hl 5 rfl) ?_
    refine rg_1_size hx hb hts in1 hown hK hP j2 (by omega) ((nw_ne (by omega) (by omega)).trans hj2.1) (hts _ (by decide +kernel)) dX1_becomeProduct_38 ?_
    refine bi_ge (tgt := 102) hx hb dX1_becomeProduct_41 (by decide) (by omega) (by omega) (fun q => ?_) (fun q => ?_)
    · obtain rfl : k = nd_s y := by omega
      exact kk cv F H locs ls h1 h2 h3 h4 hP hD hS (lv_sub hl [1, 2, 3, 4, 5] rfl)
    · exact absurd hn (by omega)
  | succ n ih =>
    intro k cv F H locs ls hn h1 h2 h3 h4 hP hD hS hl
    refine lv_iload hx hb dX1_becomeProduct_35 (lv_at hl 0 rfl) ?_
    refine lv_aload_n hx hb dX1_becomeProduct_37 rfl (lv_at hl 5 rfl) ?_
    refine rg_1_size hx hb hts in1 hown hK hP j2 (by omega) ((nw_ne (by omega) (by omega)).trans hj2.1) (hts _ (by decide +kernel)) dX1_becomeProduct_38 ?_
    refine bi_ge (tgt := 102) hx hb dX1_becomeProduct_41 (by decide) (by omega) (by omega) (fun q => ?_) (fun q => ?_)
    · exact absurd hn (by omega)
    · have hpb := pd_b (h1 (i + k)) (nd_lt x i) (nd_lt y k) h4
      refine lv_aload_n hx hb dX1_becomeProduct_44 rfl (lv_at hl 3 rfl) ?_
      refine rg_1_limbs hx hb hts in1 hown hK hP a (by omega) nw_o (hts _ (by decide +kernel)) dX1_becomeProduct_45 ?_
      refine lv_iload_n hx hb dX1_becomeProduct_48 rfl (lv_at hl 2 rfl) ?_
      refine lv_iload hx hb dX1_becomeProduct_49 (lv_at hl 0 rfl) ?_
      refine lv_iadd hx hb dX1_becomeProduct_51 ?_
      refine tp_i (y := nI (i + k)) (nI_add _ _) ?_
      refine rn_l hx hb hK hP (a + 1) (by omega) nw_l (by omega) (by decide) dX1_becomeProduct_52 ?_
      refine tp_l (y := lN (F (i + k))) (rfl) ?_
      refine lv_aload_n hx hb dX1_becomeProduct_53 rfl (lv_at hl 4 rfl) ?_
      refine rg_1_limbs hx hb hts in1 hown hK hP j1 (by omega) ((nw_ne (by omega) (by omega)).trans hj1.1) (hts _ (by decide +kernel)) dX1_becomeProduct_54 ?_
      refine lv_iload_n hx hb dX1_becomeProduct_57 rfl (lv_at hl 2 rfl) ?_
      refine rn_l hx hb hK hP (j1 + 1) (by omega) ((nw_ne (by omega) (by omega)).trans hj1.2) (by omega) (by decide) dX1_becomeProduct_58 ?_
      refine tp_l (y := lN (nd_d x i)) rfl ?_
      refine lv_aload_n hx hb dX1_becomeProduct_59 rfl (lv_at hl 5 rfl) ?_
      refine rg_1_limbs hx hb hts in1 hown hK hP j2 (by omega) ((nw_ne (by omega) (by omega)).trans hj2.1) (hts _ (by decide +kernel)) dX1_becomeProduct_60 ?_
      refine lv_iload hx hb dX1_becomeProduct_63 (lv_at hl 0 rfl) ?_
      refine rn_l hx hb hK hP (j2 + 1) (by omega) ((nw_ne (by omega) (by omega)).trans hj2.2) (by omega) (by decide) dX1_becomeProduct_65 ?_
      refine tp_l (y := lN (nd_d y k)) rfl ?_
      refine lv_lmul hx hb dX1_becomeProduct_66 ?_
      refine tp_l (y := lN ((nd_d x i) * (nd_d y k))) (lN_mul _ _) ?_
      refine lv_ladd hx hb dX1_becomeProduct_67 ?_
      refine tp_l (y := lN ((F (i + k)) + ((nd_d x i) * (nd_d y k)))) (lN_add _ _) ?_
      refine lv_lload hx hb dX1_becomeProduct_68 (lv_at hl 1 rfl) ?_
      refine lv_ladd hx hb dX1_becomeProduct_70 ?_
      refine tp_l (y := lN (((F (i + k)) + ((nd_d x i) * (nd_d y k))) + cv)) (lN_add _ _) ?_
      refine lv_lstore (lv' := [(7, .long (lN (((F (i + k)) + ((nd_d x i) * (nd_d y k))) + cv))), (6, .int (nI (k))), (4, .long (lN (cv))), (3, .int (nI (i))), (0, .ref (ad a)), (1, .ref (ad j1)), (2, .ref (ad j2))]) hx hb dX1_becomeProduct_71 hl (by decide) rfl (fun ls hl => ?_)
      refine lv_aload_n hx hb dX1_becomeProduct_73 rfl (lv_at hl 4 rfl) ?_
      refine rg_1_limbs hx hb hts in1 hown hK hP a (by omega) nw_o (hts _ (by decide +kernel)) dX1_becomeProduct_74 ?_
      refine lv_iload_n hx hb dX1_becomeProduct_77 rfl (lv_at hl 3 rfl) ?_
      refine lv_iload hx hb dX1_becomeProduct_78 (lv_at hl 1 rfl) ?_
      refine lv_iadd hx hb dX1_becomeProduct_80 ?_
      refine tp_i (y := nI (i + k)) (nI_add _ _) ?_
      refine lv_lload hx hb dX1_becomeProduct_81 (lv_at hl 0 rfl) ?_
      refine lv_ldc2 (v := lN (1000000)) hx hb hown (hts _ (by decide +kernel)) dX1_becomeProduct_83 ?_
      refine lv_lrem hx hb dX1_becomeProduct_86 (lN_ne0 (by omega) (by omega)) ?_
      refine tp_l (y := lN ((((F (i + k)) + ((nd_d x i) * (nd_d y k))) + cv) % 1000000)) (pk_lRem (by omega) (by omega) (by omega)) ?_
      refine rt_l hx hb hK hP hD hS (a + 1) (by omega) nw_l (by omega) (by decide) dX1_becomeProduct_87 (fun H locs hP hD hS => ?_)
      rw [nw_sl] at hP hD
      refine lv_lload hx hb dX1_becomeProduct_88 (lv_at hl 0 rfl) ?_
      refine lv_ldc2 (v := lN (1000000)) hx hb hown (hts _ (by decide +kernel)) dX1_becomeProduct_90 ?_
      refine lv_ldiv hx hb dX1_becomeProduct_93 (lN_ne0 (by omega) (by omega)) ?_
      refine tp_l (y := lN ((((F (i + k)) + ((nd_d x i) * (nd_d y k))) + cv) / 1000000)) (pk_lDiv (by omega) (by omega) (by omega)) ?_
      refine lv_lstore (lv' := [(4, .long (lN ((((F (i + k)) + ((nd_d x i) * (nd_d y k))) + cv) / 1000000))), (7, .long (lN (((F (i + k)) + ((nd_d x i) * (nd_d y k))) + cv))), (6, .int (nI (k))), (3, .int (nI (i))), (0, .ref (ad a)), (1, .ref (ad j1)), (2, .ref (ad j2))]) hx hb dX1_becomeProduct_94 hl (by decide) rfl (fun ls hl => ?_)
      refine lv_iinc (v := nI (k + 1)) (lv' := [(6, .int (nI (k + 1))), (4, .long (lN ((((F (i + k)) + ((nd_d x i) * (nd_d y k))) + cv) / 1000000))), (7, .long (lN (((F (i + k)) + ((nd_d x i) * (nd_d y k))) + cv))), (3, .int (nI (i))), (0, .ref (ad a)), (1, .ref (ad j1)), (2, .ref (ad j2))]) hx hb dX1_becomeProduct_96 hl (k := 2) rfl (nI_inc k 1) (by decide) rfl (fun ls hl => ?_)
      refine lv_goto (tgt := 35) hx hb dX1_becomeProduct_99 (by decide) ?_
      rw [nf_up] at hP hD
      refine ih (k + 1) _ _ H locs ls (by omega) (fun j => ?_) (fun j hj => ?_) ?_ hpb.2.1 hP hD hS (lv_sub hl [0, 1, 3, 4, 5, 6] rfl)
      · by_cases r : j = i + k
        · subst r; rw [va_up_self]; exact Nat.mod_lt _ (by decide)
        · rw [va_up_ne _ _ r]; exact h1 j
      · rw [va_up_ne _ _ (by omega)]; exact h2 j hj
      · have e := nd_v_up (F := F) (k := i + k) (v := (F (i + k) + nd_d x i * nd_d y k + cv) % 1000000) (K := 64) (by omega)
        have := pd_step e h3 rfl (Nat.pow_add 1000000 i k) (nd_ms y k)
        rw [show i + (k + 1) = i + k + 1 by omega, Nat.pow_succ]; exact this
set_option maxHeartbeats 4000000 in
set_option maxRecDepth 100000 in
theorem lp_X1_product2 {p : Program} {l : Launch} {e : Env} {R : Room} {s : State} {m : MethodId} {args : Array Value} {below : List Frame} {meth : Method} {c : Code} {Q : State → Prop} {D : va_G} {cA : Nat → ClassId} {tT : Nat} {A : Nat → Prop} {N : Nat} {ad : Nat → Nat} {g : Nat → va_E} {a j1 j2 x y : Nat} (S : CallFix p m c cX1_becomeProduct 9 s args wsX1_becomeProduct RX1) (hK : va_K D vwCl (ty_s cA) s) (hT : st_T tT A s s.heap) (ha1 : a + 1 < N) (hj11 : j1 + 1 < N) (hj21 : j2 + 1 < N) (hj1 : is_N cA ad g j1 x) (hj2 : is_N cA ad g j2 y) (n1 : a ≠ j1) (n2 : a ≠ j1 + 1) (n3 : a + 1 ≠ j1) (m1 : a ≠ j2) (m2 : a ≠ j2 + 1) (m3 : a + 1 ≠ j2) (hxy : nd_s x + nd_s y ≤ 64) (kk : ∀ (H : Heap) (locs : List Loc) (ls : Array Slot), va_P D vwCl (wm_W N ad (nw_ cA ad g a (nd_A (x * y)) (nI 0))) H → va_D A (wm_W N ad (nw_ cA ad g a (nd_A (x * y)) (nI 0))) → va_S A s.heap H locs → lv_has ls 9 [(0, .ref (ad a)), (1, .ref (ad j1)), (2, .ref (ad j2))] → W p l e R s m args below meth c H locs 0 0 Q (F0 m 121 ls [])) :
    ∀ (n i : Nat) (F : Nat → Nat) (H : Heap) (locs : List Loc) (ls : Array Slot), i + n = nd_s x → (∀ j, F j < 1000000) → (∀ j, i + nd_s y ≤ j → F j = 0) → nd_v F 64 = x % 1000000 ^ i * y → va_P D vwCl (wm_W N ad (nw_ cA ad g a (nf F) (nI 0))) H → va_D A (wm_W N ad (nw_ cA ad g a (nf F) (nI 0))) → va_S A s.heap H locs → lv_has ls 9 [(3, .int (nI (i))), (0, .ref (ad a)), (1, .ref (ad j1)), (2, .ref (ad j2))] → W p l e R s m args below meth c H locs 0 0 Q (F0 m 21 ls []) := by
  have S9 := S
  obtain ⟨hx, hb, hml, hown, hts⟩ := S
  have in1 : ∀ w ∈ wsX10, w ∈ wsX1_becomeProduct := by decide +kernel
  intro n
  induction n with
  | zero =>
    intro i F H locs ls hn h1 h2 h3 hP hD hS hl
    refine lv_iload_n hx hb dX1_becomeProduct_21 rfl (lv_at hl 0 rfl) ?_
    refine lv_aload_n hx hb dX1_becomeProduct_22 rfl (lv_at hl 2 rfl) ?_
    refine rg_1_size hx hb hts in1 hown hK hP j1 (by omega) ((nw_ne (by omega) (by omega)).trans hj1.1) (hts _ (by decide +kernel)) dX1_becomeProduct_23 ?_
    refine bi_ge (tgt := 121) hx hb dX1_becomeProduct_26 (by decide) (by omega) (by omega) (fun q => ?_) (fun q => ?_)
    · obtain rfl : i = nd_s x := by omega
      rw [Nat.mod_eq_of_lt (nd_s_lt x)] at h3
      rw [pd_fin h1 (fun j hj => h2 j (by omega)) h3] at hP hD
      exact kk H locs ls hP hD hS (lv_sub hl [1, 2, 3] rfl)
    · exact absurd hn (by omega)
  | succ n ih =>
    intro i F H locs ls hn h1 h2 h3 hP hD hS hl
    refine lv_iload_n hx hb dX1_becomeProduct_21 rfl (lv_at hl 0 rfl) ?_
    refine lv_aload_n hx hb dX1_becomeProduct_22 rfl (lv_at hl 2 rfl) ?_
    refine rg_1_size hx hb hts in1 hown hK hP j1 (by omega) ((nw_ne (by omega) (by omega)).trans hj1.1) (hts _ (by decide +kernel)) dX1_becomeProduct_23 ?_
    refine bi_ge (tgt := 121) hx hb dX1_becomeProduct_26 (by decide) (by omega) (by omega) (fun q => ?_) (fun q => ?_)
    · exact absurd hn (by omega)
    · refine lv_lconst (v := lN (0)) hx hb dX1_becomeProduct_29 rfl ?_
      refine lv_lstore (lv' := [(4, .long (lN (0))), (3, .int (nI (i))), (0, .ref (ad a)), (1, .ref (ad j1)), (2, .ref (ad j2))]) hx hb dX1_becomeProduct_30 hl (by decide) rfl (fun ls hl => ?_)
      refine lv_iconst (v := nI (0)) hx hb dX1_becomeProduct_32 (by decide) ?_
      refine lv_istore (lv' := [(6, .int (nI (0))), (4, .long (lN (0))), (3, .int (nI (i))), (0, .ref (ad a)), (1, .ref (ad j1)), (2, .ref (ad j2))]) hx hb dX1_becomeProduct_33 hl (by decide) rfl (fun ls hl => ?_)
      refine lp_X1_product1 (i := i) S9 hK hT ha1 hj11 hj21 hj1 hj2 n1 n2 n3 m1 m2 m3 hxy (by omega) (fun cv F H locs ls h1 h2 h3 h4 hP hD hS hl => ?_) (nd_s y) 0 0 F _ _ ls (by omega) h1 h2 (by rw [h3, Nat.pow_zero, Nat.mod_one]; omega) (by decide) hP hD hS (lv_sub hl [0, 1, 2, 3, 4, 5] rfl)
      refine lv_aload_n hx hb dX1_becomeProduct_102 rfl (lv_at hl 2 rfl) ?_
      refine rg_1_limbs hx hb hts in1 hown hK hP a (by omega) nw_o (hts _ (by decide +kernel)) dX1_becomeProduct_103 ?_
      refine lv_iload_n hx hb dX1_becomeProduct_106 rfl (lv_at hl 1 rfl) ?_
      refine lv_aload_n hx hb dX1_becomeProduct_107 rfl (lv_at hl 4 rfl) ?_
      refine rg_1_size hx hb hts in1 hown hK hP j2 (by omega) ((nw_ne (by omega) (by omega)).trans hj2.1) (hts _ (by decide +kernel)) dX1_becomeProduct_108 ?_
      refine lv_iadd hx hb dX1_becomeProduct_111 ?_
      refine tp_i (y := nI (i + (nd_s y))) (nI_add _ _) ?_
      refine lv_lload hx hb dX1_becomeProduct_112 (lv_at hl 0 rfl) ?_
      refine rt_l hx hb hK hP hD hS (a + 1) (by omega) nw_l (by omega) (by decide) dX1_becomeProduct_114 (fun H locs hP hD hS => ?_)
      rw [nw_sl] at hP hD
      refine lv_iinc (v := nI (i + 1)) (lv' := [(3, .int (nI (i + 1))), (4, .long (lN (cv))), (0, .ref (ad a)), (1, .ref (ad j1)), (2, .ref (ad j2))]) hx hb dX1_becomeProduct_115 hl (k := 1) rfl (nI_inc i 1) (by decide) rfl (fun ls hl => ?_)
      refine lv_goto (tgt := 21) hx hb dX1_becomeProduct_118 (by decide) ?_
      rw [nf_up] at hP hD
      refine ih (i + 1) _ H locs ls (by omega) (fun j => ?_) (fun j hj => ?_) ?_ hP hD hS (lv_sub hl [0, 2, 3, 4] rfl)
      · by_cases r : j = i + nd_s y
        · subst r; rw [va_up_self]; exact h4
        · rw [va_up_ne _ _ r]; exact h1 j
      · rw [va_up_ne _ _ (by omega)]; exact h2 j (by omega)
      · have e := nd_v_up (F := F) (k := i + nd_s y) (v := cv) (K := 64) (by omega)
        rw [h2 (i + nd_s y) (Nat.le_refl _), Nat.pow_add] at e
        rw [Nat.pow_add, Nat.mod_eq_of_lt (nd_s_lt y)] at h3
        exact pd_out (p := 0) e h3 (nd_ms x i)
theorem nd_xy {x y : Nat} : x * y < 1000000 ^ (nd_s x + nd_s y) := by
  rw [Nat.pow_add]; exact Nat.mul_lt_mul'' (nd_s_lt x) (nd_s_lt y)
theorem nf_0 : nd_A 0 = nf (fun _ => 0) := by funext j; rw [nd_A, nd_d0]; rfl
theorem nd_v0 (K : Nat) : nd_v (fun _ => 0) K = 0 := by
  induction K with
  | zero => rfl
  | succ K ih => rw [nd_v, ih]; simp
set_option maxHeartbeats 4000000 in
set_option maxRecDepth 100000 in
/-- becomeProduct -/
theorem c_X1_becomeProduct (l : Launch) (D : va_G) (cA : Nat → ClassId) (tT : Nat) (A : Nat → Prop) (N : Nat) (ad : Nat → Nat) (sz : Nat) (g : Nat → va_E) {a j1 j2 x y z : Nat} (ha1 : a + 1 < N) (hj11 : j1 + 1 < N) (hj21 : j2 + 1 < N) (hj1 : is_N cA ad g j1 x) (hj2 : is_N cA ad g j2 y) (n1 : a ≠ j1) (n2 : a ≠ j1 + 1) (n3 : a + 1 ≠ j1) (m1 : a ≠ j2) (m2 : a ≠ j2 + 1) (m3 : a + 1 ≠ j2) (hxy : nd_s x + nd_s y ≤ 64) (ha : is_N cA ad g a z) (hz64 : z < 1000000 ^ 64) : Met l yX1_becomeProduct wsX1_becomeProduct ({ frames := 1, cells := 0, slots := 0, locals := 21 }) (va_Pc [.ref (ad a), .ref (ad j1), .ref (ad j2)] (wd_B D cA tT A N ad sz g)) (va_Qv (fun (u : Nat → va_E) => u = nN cA ad g a (x * y)) (wd_E D cA A N ad) A) 0 0 A := by
  refine Met.ofW (cc := cX1_becomeProduct) (maxL := 9) (ret := none) (by decide) rfl ?_
  intro p e s m args below meth c s₁ B hml hv
  obtain ⟨rfl, hsz, hP, hK, hD, hT⟩ := hv
  have hx := B.exec
  have hb := B.bytes
  have hr := B.returns
  have hts := atoms_spec (ws := wsX1_becomeProduct) B.pre
  have hown : s.vm.findClass RX1 = some m.cls := findClass_of_methodNamed B.named
  have hlocks := B.notSynchronized
  subst hsz
  have hS : va_S A s.heap s.heap [] := va_S.rf
  have in1 : ∀ w ∈ wsX10, w ∈ wsX1_becomeProduct := by decide +kernel
  have hl := lv_entry ([.ref (ad a), .ref (ad j1), .ref (ad j2)]) (n := 9) (Nat.le_of_ble_eq_true rfl)
  rw [lg_entry_eq]
  generalize (lg_sl ([.ref (ad a), .ref (ad j1), .ref (ad j2)]) ++ List.replicate (9 - (lg_sl ([.ref (ad a), .ref (ad j1), .ref (ad j2)])).length) Slot.unset).toArray = ls at hl ⊢
  have hl : lv_has ls 9 [(0, .ref (ad a)), (1, .ref (ad j1)), (2, .ref (ad j2))] := hl
  refine lv_aload_n hx hb dX1_becomeProduct_0 rfl (lv_at hl 0 rfl) ?_
  refine va_callv (va_runV (As := []) (rest := []) ⟨hx, hb, hml, hown, hts⟩ (c_X1_clear l D cA tT A N ad _ _ (a := a) (x := z) ha1 ha hz64) (cwV 0 hts gX1_becomeProduct_X1_clear rfl rfl rfl (by decide +kernel) ⟨Nat.le_of_ble_eq_true rfl, Nat.le_of_ble_eq_true rfl⟩) (wd_preV (k := a) hP hK hD hT hS (by omega) ha.1 rfl) rfl rfl hl.1 rfl (lv_room (Nat.le_of_ble_eq_true rfl)) dX1_becomeProduct_1 ⟨Nat.zero_le _, Nat.zero_le _⟩) hS id_2 id_1 (fun u t H locs ht hvm hw hB hz1 hk1 hS => ?_)
  obtain ⟨hP, hD⟩ := wd_back ht hB
  clear ht hvm hB hz1 hk1
  rw [hw] at hP hD
  clear hw
  rw [nN, nf_0, nd_s0] at hP hD
  refine lv_aload_n hx hb dX1_becomeProduct_4 rfl (lv_at hl 1 rfl) ?_
  refine rg_1_size hx hb hts in1 hown hK hP j1 (by omega) ((nw_ne (by omega) (by omega)).trans hj1.1) (hts _ (by decide +kernel)) dX1_becomeProduct_5 ?_
  refine lv_aload_n hx hb dX1_becomeProduct_8 rfl (lv_at hl 2 rfl) ?_
  refine rg_1_size hx hb hts in1 hown hK hP j2 (by omega) ((nw_ne (by omega) (by omega)).trans hj2.1) (hts _ (by decide +kernel)) dX1_becomeProduct_9 ?_
  refine lv_iadd hx hb dX1_becomeProduct_12 ?_
  refine tp_i (y := nI ((nd_s x) + (nd_s y))) (nI_add _ _) ?_
  refine lv_bipush (v := nI (64)) hx hb dX1_becomeProduct_13 (by decide) ?_
  refine bi_le (tgt := 19) hx hb dX1_becomeProduct_15 (by decide) (by omega) (by omega) (fun q => ?_) (fun q => ?_)
  · refine lv_iconst (v := nI (0)) hx hb dX1_becomeProduct_19 (by decide) ?_
    refine lv_istore_n (lv' := [(3, .int (nI (0))), (0, .ref (ad a)), (1, .ref (ad j1)), (2, .ref (ad j2))]) hx hb dX1_becomeProduct_20 rfl hl (by decide) rfl (fun ls hl => ?_)
    refine lp_X1_product2 ⟨hx, hb, hml, hown, hts⟩ hK hT ha1 hj11 hj21 hj1 hj2 n1 n2 n3 m1 m2 m3 hxy (fun H locs ls hP hD hS hl => ?_) (nd_s x) 0 (fun _ => 0) _ _ ls (by omega) (fun _ => by decide) (fun _ _ => rfl) (by rw [nd_v0, Nat.pow_zero, Nat.mod_one, Nat.zero_mul]) hP hD hS (lv_sub hl [0, 1, 2, 3] rfl)
    refine lv_aload_n hx hb dX1_becomeProduct_121 rfl (lv_at hl 0 rfl) ?_
    refine lv_aload_n hx hb dX1_becomeProduct_122 rfl (lv_at hl 1 rfl) ?_
    refine rg_1_size hx hb hts in1 hown hK hP j1 (by omega) ((nw_ne (by omega) (by omega)).trans hj1.1) (hts _ (by decide +kernel)) dX1_becomeProduct_123 ?_
    refine lv_aload_n hx hb dX1_becomeProduct_126 rfl (lv_at hl 2 rfl) ?_
    refine rg_1_size hx hb hts in1 hown hK hP j2 (by omega) ((nw_ne (by omega) (by omega)).trans hj2.1) (hts _ (by decide +kernel)) dX1_becomeProduct_127 ?_
    refine lv_iadd hx hb dX1_becomeProduct_130 ?_
    refine tp_i (y := nI ((nd_s x) + (nd_s y))) (nI_add _ _) ?_
    refine rp_1_size hx hb hts in1 hown hK hP hD hS a (by omega) nw_o (hts _ (by decide +kernel)) rfl rfl dX1_becomeProduct_131 (fun H locs hP hD hS => ?_)
    rw [nw_so] at hP hD
    refine lv_aload_n hx hb dX1_becomeProduct_134 rfl (lv_at hl 0 rfl) ?_
    refine va_callv (va_runV (As := []) (rest := []) ⟨hx, hb, hml, hown, hts⟩ (c_X1_shrink l D cA tT A N ad _ g (a := a) (V := x * y) (k := nd_s x + nd_s y) ha1 hxy nd_xy) (cwV 0 hts gX1_becomeProduct_X1_shrink rfl rfl rfl (by decide +kernel) ⟨Nat.le_of_ble_eq_true rfl, Nat.le_of_ble_eq_true rfl⟩) (wd_preV (k := a) hP hK hD hT hS (by omega) nw_o rfl) rfl rfl hl.1 rfl (lv_room (Nat.le_of_ble_eq_true rfl)) dX1_becomeProduct_135 ⟨Nat.zero_le _, Nat.zero_le _⟩) hS id_2 id_1 (fun u t H locs ht hvm hw hB hz1 hk1 hS => ?_)
    obtain ⟨hP, hD⟩ := wd_back ht hB
    clear ht hvm hB hz1 hk1
    rw [hw] at hP hD
    clear hw
    exact W.vret hx hb hr (fun t ht hW => ⟨⟨_, rfl, rfl, wd_end hP hK hD ht hW⟩, hS.F ht⟩) hS.2.2 dX1_becomeProduct_138
  · exact absurd hxy q
end
section
theorem iZ_addN (a : Int) (b : Nat) : iZ a + nI b = iZ (a + (b : Int)) := by rw [iZ_nat, iZ_add]
theorem iZ_addM (a : Nat) (b : Int) : nI a + iZ b = iZ ((a : Int) + b) := by rw [iZ_nat, iZ_add]
theorem iZ_subN (a : Int) (b : Nat) : iZ a - nI b = iZ (a - (b : Int)) := by rw [iZ_nat, iZ_sub]
theorem iZ_subM (a : Nat) (b : Int) : nI a - iZ b = iZ ((a : Int) - b) := by rw [iZ_nat, iZ_sub]
theorem iZ_mul (a b : Int) : iZ a * iZ b = iZ (a * b) := (Int32.ofInt_mul a b).symm
theorem iZ_mulN (a : Int) (b : Nat) : iZ a * nI b = iZ (a * (b : Int)) := by rw [iZ_nat, iZ_mul]
theorem iZ_mulM (a : Nat) (b : Int) : nI a * iZ b = iZ ((a : Int) * b) := by rw [iZ_nat, iZ_mul]
theorem lZ_addN (a : Int) (b : Nat) : lZ a + lN b = lZ (a + (b : Int)) := by rw [lZ_nat, lZ_add]
theorem lZ_addM (a : Nat) (b : Int) : lN a + lZ b = lZ ((a : Int) + b) := by rw [lZ_nat, lZ_add]
theorem lZ_subN (a : Int) (b : Nat) : lZ a - lN b = lZ (a - (b : Int)) := by rw [lZ_nat, lZ_sub]
theorem lZ_subM (a : Nat) (b : Int) : lN a - lZ b = lZ ((a : Int) - b) := by rw [lZ_nat, lZ_sub]
theorem lZ_mulN (a : Int) (b : Nat) : lZ a * lN b = lZ (a * (b : Int)) := by rw [lZ_nat, lZ_mul]
theorem lZ_mulM (a : Nat) (b : Int) : lN a * lZ b = lZ ((a : Int) * b) := by rw [lZ_nat, lZ_mul]
/-- a quotient cut to 0 -/
def td (w : Int) : Int := sg (decide (w < 0)) (w.natAbs / 1000000)
theorem td_div {w : Int} (h1 : -9223372036854775808 ≤ w) (h2 : w < 9223372036854775808) : lZ w / lN 1000000 = lZ (td w) := by
  have := lZ_div (n := decide (w < 0)) (q := w.natAbs) (b := 1000000) (by rw [sg_of]; exact h1) (by rw [sg_of]; exact h2) (by decide)
  rw [sg_of] at this
  exact this
theorem td_pos {w : Int} (h : 0 ≤ w) : td w = w / 1000000 := by
  rw [td, decide_eq_false (by omega), sg_f]; omega
theorem td_neg {w : Int} (h : w < 0) : td w = -((w.natAbs / 1000000 : Nat) : Int) := by
  rw [td, decide_eq_true h, sg_t]
theorem xr_ge {w : Int} (h1 : -9223372036854775808 ≤ w) (h2 : w < 9223372036854775808) : lN 0 ≤ lZ w ^^^ lN 1000000 ↔ 0 ≤ w := by
  have a1 : ∀ x : Int64, x.toInt < 0 ↔ x.toBitVec.msb = true := fun x => by
    rw [BitVec.msb_eq_toInt, decide_eq_true_iff]; rfl
  have e : (lZ w ^^^ lN 1000000).toInt < 0 ↔ w < 0 := by
    rw [a1, Int64.toBitVec_xor, BitVec.msb_xor, show (lN 1000000).toBitVec.msb = false by decide, Bool.xor_false, ← a1, lZ_toInt h1 h2]
  rw [Int64.le_iff_toInt_le, show (lN 0).toInt = 0 by decide]
  omega
set_option maxHeartbeats 4000000 in
set_option maxRecDepth 100000 in
/-- Math.floorDiv by the base -/
theorem c_J9_floorDiv (l : Launch) (D : va_G) (cA : Nat → ClassId) (tT : Nat) (A : Nat → Prop) (N : Nat) (ad : Nat → Nat) (sz : Nat) (g : Nat → va_E) {w : Int} (h1 : -4611686018427387904 ≤ w) (h2 : w < 4611686018427387904) : Met l yJ9_floorDiv_f86c9 wsJ9_floorDiv_f86c9 ({ frames := 0, cells := 0, slots := 0, locals := 0 }) (va_Pc [.long (lZ (w)), .long (lN (1000000))] (wd_B D cA tT A N ad sz g)) (va_Ql (fun (r : Int64) (u : Nat → va_E) => r = lZ (w / 1000000) ∧ u = g) (wd_E D cA A N ad) A) 0 0 A := by
  refine va_MetF (cc := cJ9_floorDiv_f86c9) (maxL := 6) (ret := (some .long)) (by decide +kernel) rfl ?_
  intro p e s m args below meth c s₁ B hml hv
  obtain ⟨rfl, hsz, hP, hK, hD, hT⟩ := hv
  have hx := B.exec
  have hb := B.bytes
  have hr := B.returns
  have hts := atoms_spec (ws := wsJ9_floorDiv_f86c9) B.pre
  have hown : s.vm.findClass RJ9 = some m.cls := findClass_of_methodNamed B.named
  have hlocks := B.notSynchronized
  subst hsz
  have hS : va_S A s.heap s.heap [] := va_S.rf
  have hl := lv_entry ([.long (lZ (w)), .long (lN (1000000))]) (n := 6) (Nat.le_of_ble_eq_true rfl)
  rw [lg_entry_eq]
  generalize (lg_sl ([.long (lZ (w)), .long (lN (1000000))]) ++ List.replicate (6 - (lg_sl ([.long (lZ (w)), .long (lN (1000000))])).length) Slot.unset).toArray = ls at hl ⊢
  have hl : lv_has ls 6 [(0, .long (lZ (w))), (2, .long (lN (1000000)))] := hl
  refine lv_lload_n hx hb dJ9_floorDiv_f86c9_0 rfl (lv_at hl 0 rfl) ?_
  refine lv_lload_n hx hb dJ9_floorDiv_f86c9_1 rfl (lv_at hl 1 rfl) ?_
  refine lv_ldiv hx hb dJ9_floorDiv_f86c9_2 (lN_ne0 (by omega) (by omega)) ?_
  refine tp_l (y := lZ (td w)) (td_div (by omega) (by omega)) ?_
  refine lv_lstore (lv' := [(4, .long (lZ (td w))), (0, .long (lZ (w))), (2, .long (lN (1000000)))]) hx hb dJ9_floorDiv_f86c9_3 hl (by decide) rfl (fun ls hl => ?_)
  refine lv_lload_n hx hb dJ9_floorDiv_f86c9_5 rfl (lv_at hl 1 rfl) ?_
  refine lv_lload_n hx hb dJ9_floorDiv_f86c9_6 rfl (lv_at hl 2 rfl) ?_
  refine lv_lxor hx hb dJ9_floorDiv_f86c9_7 ?_
  refine lv_lconst (v := lN (0)) hx hb dJ9_floorDiv_f86c9_8 rfl ?_
  refine bL_ge (tgt := 27) hx hb dJ9_floorDiv_f86c9_9 dJ9_floorDiv_f86c9_10 (by decide) (fun q => ?_) (fun q => ?_)
  · rw [xr_ge (by omega) (by omega)] at q
    refine lv_lload hx hb dJ9_floorDiv_f86c9_27 (lv_at hl 0 rfl) ?_
    exact W.lret (v := lZ (td w)) hx hb hr (fun t ht hW => ⟨⟨lZ (td w), g, rfl, ⟨by rw [td_pos q], rfl⟩, wd_end hP hK hD ht hW⟩, hS.F ht⟩) hS.2.2 dJ9_floorDiv_f86c9_29
  · rw [xr_ge (by omega) (by omega)] at q
    have hn := td_neg (w := w) (by omega)
    refine lv_lload hx hb dJ9_floorDiv_f86c9_13 (lv_at hl 0 rfl) ?_
    refine lv_lload_n hx hb dJ9_floorDiv_f86c9_15 rfl (lv_at hl 2 rfl) ?_
    refine lv_lmul hx hb dJ9_floorDiv_f86c9_16 ?_
    refine tp_l (y := lZ ((td w) * ((1000000 : Nat) : Int))) (lZ_mulN _ _) ?_
    refine lv_lload_n hx hb dJ9_floorDiv_f86c9_17 rfl (lv_at hl 1 rfl) ?_
    refine bL_eq (tgt := 27) hx hb dJ9_floorDiv_f86c9_18 dJ9_floorDiv_f86c9_19 (by decide) (fun q2 => ?_) (fun q2 => ?_)
    · rw [lZ_eq (by omega) (by omega) (by omega) (by omega)] at q2
      refine lv_lload hx hb dJ9_floorDiv_f86c9_27 (lv_at hl 0 rfl) ?_
      exact W.lret (v := lZ (td w)) hx hb hr (fun t ht hW => ⟨⟨lZ (td w), g, rfl, ⟨by congr 1; omega, rfl⟩, wd_end hP hK hD ht hW⟩, hS.F ht⟩) hS.2.2 dJ9_floorDiv_f86c9_29
    · rw [lZ_eq (by omega) (by omega) (by omega) (by omega)] at q2
      refine lv_lload hx hb dJ9_floorDiv_f86c9_22 (lv_at hl 0 rfl) ?_
      refine lv_lconst (v := lN (1)) hx hb dJ9_floorDiv_f86c9_24 rfl ?_
      refine lv_lsub hx hb dJ9_floorDiv_f86c9_25 ?_
      refine tp_l (y := lZ ((td w) - ((1 : Nat) : Int))) (lZ_subN _ _) ?_
      exact W.lret (v := lZ ((td w) - ((1 : Nat) : Int))) hx hb hr (fun t ht hW => ⟨⟨lZ ((td w) - ((1 : Nat) : Int)), g, rfl, ⟨by congr 1; omega, rfl⟩, wd_end hP hK hD ht hW⟩, hS.F ht⟩) hS.2.2 dJ9_floorDiv_f86c9_26
/-- limbs that may have a sign -/
def zf (F : Nat → Int) : Nat → Int64 := fun j => lZ (F j)
theorem zf_up (F : Nat → Int) (k : Nat) (v : Int) : vp_updL (zf F) k (lZ v) = zf (va_up F k v) := by
  funext j
  simp only [vp_updL, zf, va_up]
  by_cases h : j = k <;> simp [h]
/-- the window's number -/
def zv (F : Nat → Int) (p : Nat) : Nat → Int
  | 0 => 0
  | k + 1 => zv F p k + F (p + k) * (1000000 ^ k : Nat)
theorem zv_congr {F G : Nat → Int} {p k : Nat} (h : ∀ j, j < k → F (p + j) = G (p + j)) : zv F p k = zv G p k := by
  induction k with
  | zero => rfl
  | succ k ih => rw [zv, zv, ih (fun j hj => h j (by omega)), h k (by omega)]
theorem ta_step {A B c w T Pk d Y Fv : Int} (h : A + c * Pk = B - T * Y) (hw : w = Fv - T * d + c) : A + (w - w / 1000000 * 1000000) * Pk + w / 1000000 * (Pk * 1000000) = B + Fv * Pk - T * (Y + Pk * d) := by
  have e1 : (w - w / 1000000 * 1000000) * Pk + w / 1000000 * (Pk * 1000000) = w * Pk := by
    rw [Int.sub_mul, Int.mul_comm Pk 1000000, ← Int.mul_assoc]; omega
  have e2 : w * Pk = Fv * Pk - T * (Pk * d) + c * Pk := by
    rw [hw, Int.add_mul, Int.sub_mul, Int.mul_assoc T d Pk, Int.mul_comm d Pk]
  have e3 : T * (Y + Pk * d) = T * Y + T * (Pk * d) := Int.mul_add _ _ _
  omega
theorem ta_b {T d : Int} (hT1 : -1000000 ≤ T) (hT2 : T ≤ 1000000) (hd1 : 0 ≤ d) (hd2 : d < 1000000) : -1000000000000 ≤ T * d ∧ T * d ≤ 1000000000000 := by
  constructor
  · have h1 : -1000000 * d ≤ T * d := Int.mul_le_mul_of_nonneg_right hT1 hd1
    omega
  · have h1 : T * d ≤ 1000000 * d := Int.mul_le_mul_of_nonneg_right hT2 hd1
    omega
set_option maxHeartbeats 4000000 in
set_option maxRecDepth 100000 in
theorem lp_X1_takeAway {p : Program} {l : Launch} {e : Env} {R : Room} {s : State} {m : MethodId} {args : Array Value} {below : List Frame} {meth : Method} {c : Code} {Q : State → Prop} {D : va_G} {cA : Nat → ClassId} {tT : Nat} {A : Nat → Prop} {N : Nat} {ad : Nat → Nat} {g : Nat → va_E} {a o y q : Nat} {sv : Int32} {T : Int} {F : Nat → Int} (S : CallFix p m c cX1_takeAway 10 s args wsX1_takeAway RX1) (hK : va_K D vwCl (ty_s cA) s) (hT : st_T tT A s s.heap) (hRf : 1 ≤ R.frames) (hRl : 25 ≤ R.locals) (ha1 : a + 1 < N) (ho1 : o + 1 < N) (ho : is_N cA ad g o y) (n1 : a ≠ o) (n2 : a ≠ o + 1) (n3 : a + 1 ≠ o) (hat : q + nd_s y < 64) (hT1 : -1000000 ≤ T) (hT2 : T ≤ 1000000) (hF : ∀ j, j < nd_s y → 0 ≤ F (q + j) ∧ F (q + j) < 1000000) (kk : ∀ (cv : Int) (G : Nat → Int) (H : Heap) (locs : List Loc) (ls : Array Slot), zv G q (nd_s y) + cv * (1000000 ^ nd_s y : Nat) = zv F q (nd_s y) - T * (y % 1000000 ^ nd_s y : Nat) → -1000002 ≤ cv → cv ≤ 1000002 → (∀ j, j < nd_s y → 0 ≤ G (q + j) ∧ G (q + j) < 1000000) → (∀ j, j < q ∨ q + nd_s y ≤ j → G j = F j) → va_P D vwCl (wm_W N ad (nw_ cA ad g a (zf G) sv)) H → va_D A (wm_W N ad (nw_ cA ad g a (zf G) sv)) → va_S A s.heap H locs → lv_has ls 10 [(5, .long (lZ cv)), (0, .ref (ad a)), (1, .ref (ad o)), (4, .int (nI q))] → W p l e R s m args below meth c H locs 0 0 Q (F0 m 75 ls [])) :
    ∀ (n i : Nat) (cv : Int) (G : Nat → Int) (H : Heap) (locs : List Loc) (ls : Array Slot), i + n = nd_s y → zv G q i + cv * (1000000 ^ i : Nat) = zv F q i - T * (y % 1000000 ^ i : Nat) → -1000002 ≤ cv → cv ≤ 1000002 → (∀ j, j < i → 0 ≤ G (q + j) ∧ G (q + j) < 1000000) → (∀ j, j < q ∨ q + i ≤ j → G j = F j) → va_P D vwCl (wm_W N ad (nw_ cA ad g a (zf G) sv)) H → va_D A (wm_W N ad (nw_ cA ad g a (zf G) sv)) → va_S A s.heap H locs → lv_has ls 10 [(7, .int (nI (i))), (5, .long (lZ (cv))), (0, .ref (ad a)), (1, .ref (ad o)), (2, .long (lZ (T))), (4, .int (nI (q)))] → W p l e R s m args below meth c H locs 0 0 Q (F0 m 6 ls []) := by
  obtain ⟨hx, hb, hml, hown, hts⟩ := S
  have in1 : ∀ w ∈ wsX10, w ∈ wsX1_takeAway := by decide +kernel
  intro n
  induction n with
  | zero =>
    intro i cv G H locs ls hn h1 h2 h3 h4 h5 hP hD hS hl
    refine lv_iload hx hb dX1_takeAway_6 (lv_at hl 0 rfl) ?_
    refine lv_aload_n hx hb dX1_takeAway_8 rfl (lv_at hl 3 rfl) ?_
    refine rg_1_size hx hb hts in1 hown hK hP o (by omega) ((nw_ne (by omega) (by omega)).trans ho.1) (hts _ (by decide +kernel)) dX1_takeAway_9 ?_
    refine bi_ge (tgt := 75) hx hb dX1_takeAway_12 (by decide) (by omega) (by omega) (fun q9 => ?_) (fun q9 => ?_)
    · obtain rfl : i = nd_s y := by omega
      exact kk cv G H locs ls h1 h2 h3 h4 h5 hP hD hS (lv_sub hl [1, 2, 3, 5] rfl)
    · exact absurd hn (by omega)
  | succ n ih =>
    intro i cv G H locs ls hn h1 h2 h3 h4 h5 hP hD hS hl
    refine lv_iload hx hb dX1_takeAway_6 (lv_at hl 0 rfl) ?_
    refine lv_aload_n hx hb dX1_takeAway_8 rfl (lv_at hl 3 rfl) ?_
    refine rg_1_size hx hb hts in1 hown hK hP o (by omega) ((nw_ne (by omega) (by omega)).trans ho.1) (hts _ (by decide +kernel)) dX1_takeAway_9 ?_
    refine bi_ge (tgt := 75) hx hb dX1_takeAway_12 (by decide) (by omega) (by omega) (fun q9 => ?_) (fun q9 => ?_)
    · exact absurd hn (by omega)
    · have hd := nd_lt y i
      have hTd := ta_b (d := (nd_d y i : Int)) hT1 hT2 (by omega) (by omega)
      have hFi := hF i (by omega)
      have hGi : G (q + i) = F (q + i) := h5 _ (Or.inr (Nat.le_refl _))
      refine lv_aload_n hx hb dX1_takeAway_15 rfl (lv_at hl 2 rfl) ?_
      refine rg_1_limbs hx hb hts in1 hown hK hP a (by omega) nw_o (hts _ (by decide +kernel)) dX1_takeAway_16 ?_
      refine lv_iload hx hb dX1_takeAway_19 (lv_at hl 5 rfl) ?_
      refine lv_iload hx hb dX1_takeAway_21 (lv_at hl 0 rfl) ?_
      refine lv_iadd hx hb dX1_takeAway_23 ?_
      refine tp_i (y := nI (q + i)) (nI_add _ _) ?_
      refine rn_l hx hb hK hP (a + 1) (by omega) nw_l (by omega) (by decide) dX1_takeAway_24 ?_
      refine tp_l (y := lZ (G (q + i))) rfl ?_
      refine lv_lload_n hx hb dX1_takeAway_25 rfl (lv_at hl 4 rfl) ?_
      refine lv_aload_n hx hb dX1_takeAway_26 rfl (lv_at hl 3 rfl) ?_
      refine rg_1_limbs hx hb hts in1 hown hK hP o (by omega) ((nw_ne (by omega) (by omega)).trans ho.1) (hts _ (by decide +kernel)) dX1_takeAway_27 ?_
      refine lv_iload hx hb dX1_takeAway_30 (lv_at hl 0 rfl) ?_
      refine rn_l hx hb hK hP (o + 1) (by omega) ((nw_ne (by omega) (by omega)).trans ho.2) (by omega) (by decide) dX1_takeAway_32 ?_
      refine tp_l (y := lN (nd_d y i)) rfl ?_
      refine lv_lmul hx hb dX1_takeAway_33 ?_
      refine tp_l (y := lZ (T * ((nd_d y i : Nat) : Int))) (lZ_mulN _ _) ?_
      refine lv_lsub hx hb dX1_takeAway_34 ?_
      refine tp_l (y := lZ ((G (q + i)) - (T * ((nd_d y i : Nat) : Int)))) (lZ_sub _ _) ?_
      refine lv_lload hx hb dX1_takeAway_35 (lv_at hl 1 rfl) ?_
      refine lv_ladd hx hb dX1_takeAway_37 ?_
      refine tp_l (y := lZ (((G (q + i)) - (T * ((nd_d y i : Nat) : Int))) + cv)) (lZ_add _ _) ?_
      refine lv_lstore (lv' := [(8, .long (lZ (((G (q + i)) - (T * ((nd_d y i : Nat) : Int))) + cv))), (7, .int (nI (i))), (5, .long (lZ (cv))), (0, .ref (ad a)), (1, .ref (ad o)), (2, .long (lZ (T))), (4, .int (nI (q)))]) hx hb dX1_takeAway_38 hl (by decide) rfl (fun ls hl => ?_)
      refine lv_lload hx hb dX1_takeAway_40 (lv_at hl 0 rfl) ?_
      refine lv_ldc2 (v := lN (1000000)) hx hb hown (hts _ (by decide +kernel)) dX1_takeAway_42 ?_
      obtain ⟨w, hw9⟩ : ∃ w : Int, w = G (q + i) - T * ((nd_d y i : Nat) : Int) + cv := ⟨_, rfl⟩
      rw [← hw9] at hl ⊢
      refine va_calll (va_runS (As := [.long (lZ (w)), .long (lN (1000000))]) (rest := []) ⟨hx, hb, hml, hown, hts⟩ (c_J9_floorDiv l D cA tT A N ad _ _ (w := w) (by omega) (by omega)) (va_cwS 2 hts gX1_takeAway_J9_floorDiv_f86c9 rfl rfl rfl (by decide +kernel) ⟨hRf, hRl⟩) (wd_preS hP hK hD hT hS) rfl rfl hl.1 rfl (lv_room (Nat.le_of_ble_eq_true rfl)) dX1_takeAway_45 ⟨Nat.zero_le _, Nat.zero_le _⟩) hS id_2 id_1 (fun r_ u t H locs ht hvm hw hB hz1 hk1 hS => ?_)
      obtain ⟨hP, hD⟩ := wd_back ht hB
      clear ht hvm hB hz1 hk1
      obtain ⟨hr_, hu_⟩ := hw
      subst hr_
      rw [hu_] at hP hD
      clear hu_
      refine lv_lstore (lv' := [(5, .long (lZ (w / 1000000))), (8, .long (lZ (w))), (7, .int (nI (i))), (0, .ref (ad a)), (1, .ref (ad o)), (2, .long (lZ (T))), (4, .int (nI (q)))]) hx hb dX1_takeAway_48 hl (by decide) rfl (fun ls hl => ?_)
      refine lv_aload_n hx hb dX1_takeAway_50 rfl (lv_at hl 3 rfl) ?_
      refine rg_1_limbs hx hb hts in1 hown hK hP a (by omega) nw_o (hts _ (by decide +kernel)) dX1_takeAway_51 ?_
      refine lv_iload hx hb dX1_takeAway_54 (lv_at hl 6 rfl) ?_
      refine lv_iload hx hb dX1_takeAway_56 (lv_at hl 2 rfl) ?_
      refine lv_iadd hx hb dX1_takeAway_58 ?_
      refine tp_i (y := nI (q + i)) (nI_add _ _) ?_
      refine lv_lload hx hb dX1_takeAway_59 (lv_at hl 1 rfl) ?_
      refine lv_lload hx hb dX1_takeAway_61 (lv_at hl 0 rfl) ?_
      refine lv_ldc2 (v := lN (1000000)) hx hb hown (hts _ (by decide +kernel)) dX1_takeAway_63 ?_
      refine lv_lmul hx hb dX1_takeAway_66 ?_
      refine tp_l (y := lZ ((w / 1000000) * ((1000000 : Nat) : Int))) (lZ_mulN _ _) ?_
      refine lv_lsub hx hb dX1_takeAway_67 ?_
      refine tp_l (y := lZ (w - ((w / 1000000) * ((1000000 : Nat) : Int)))) (lZ_sub _ _) ?_
      refine rt_l hx hb hK hP hD hS (a + 1) (by omega) nw_l (by omega) (by decide) dX1_takeAway_68 (fun H locs hP hD hS => ?_)
      rw [nw_sl] at hP hD
      refine lv_iinc (v := nI (i + 1)) (lv' := [(7, .int (nI (i + 1))), (5, .long (lZ (w / 1000000))), (8, .long (lZ (w))), (0, .ref (ad a)), (1, .ref (ad o)), (2, .long (lZ (T))), (4, .int (nI (q)))]) hx hb dX1_takeAway_69 hl (k := 2) rfl (nI_inc i 1) (by decide) rfl (fun ls hl => ?_)
      refine lv_goto (tgt := 6) hx hb dX1_takeAway_72 (by decide) ?_
      rw [zf_up] at hP hD
      refine ih (i + 1) _ _ H locs ls (by omega) ?_ (by omega) (by omega) (fun j hj => ?_) (fun j hj => ?_) hP hD hS (lv_sub hl [0, 1, 3, 4, 5, 6] rfl)
      · rw [zv, zv, va_up_self, zv_congr (G := G) (fun j hj => va_up_ne _ _ (by omega)), nd_ms, Nat.pow_succ, Int.natCast_add, Int.natCast_mul, Int.natCast_mul]
        exact ta_step h1 (by rw [hw9, hGi])
      · rcases Nat.lt_or_ge j i with r | r
        · rw [va_up_ne _ _ (by omega)]; exact h4 j r
        · obtain rfl : j = i := by omega
          rw [va_up_self]; omega
      · rw [va_up_ne _ _ (by omega)]; exact h5 j (by omega)
set_option maxHeartbeats 4000000 in
set_option maxRecDepth 100000 in
/-- takeAway: some times the other one at a place -/
theorem c_X1_takeAway (l : Launch) (D : va_G) (cA : Nat → ClassId) (tT : Nat) (A : Nat → Prop) (N : Nat) (ad : Nat → Nat) (sz : Nat) (g : Nat → va_E) {a o y q : Nat} {sv : Int32} {T : Int} {F : Nat → Int} (ha1 : a + 1 < N) (ho1 : o + 1 < N) (ho : is_N cA ad g o y) (n1 : a ≠ o) (n2 : a ≠ o + 1) (n3 : a + 1 ≠ o) (hat : q + nd_s y < 64) (hT1 : -1000000 ≤ T) (hT2 : T ≤ 1000000) (hF : ∀ j, j < nd_s y → 0 ≤ F (q + j) ∧ F (q + j) < 1000000) : Met l yX1_takeAway wsX1_takeAway ({ frames := 1, cells := 0, slots := 0, locals := 25 }) (va_Pc [.ref (ad a), .ref (ad o), .long (lZ (T)), .int (nI (q))] (wd_B D cA tT A N ad sz (nw_ cA ad g a (zf F) sv))) (va_Qv (fun (u : Nat → va_E) => ∃ G : Nat → Int, u = nw_ cA ad g a (zf G) sv ∧ zv G q (nd_s y + 1) = zv F q (nd_s y + 1) - T * (y : Int) ∧ (∀ j, j < nd_s y → 0 ≤ G (q + j) ∧ G (q + j) < 1000000) ∧ (∀ j, j < q ∨ q + nd_s y + 1 ≤ j → G j = F j)) (wd_E D cA A N ad) A) 0 0 A := by
  refine Met.ofW (cc := cX1_takeAway) (maxL := 10) (ret := none) (by decide) rfl ?_
  intro p e s m args below meth c s₁ B hml hv
  obtain ⟨rfl, hsz, hP, hK, hD, hT⟩ := hv
  have hx := B.exec
  have hb := B.bytes
  have hr := B.returns
  have hts := atoms_spec (ws := wsX1_takeAway) B.pre
  have hown : s.vm.findClass RX1 = some m.cls := findClass_of_methodNamed B.named
  have hlocks := B.notSynchronized
  subst hsz
  have hS : va_S A s.heap s.heap [] := va_S.rf
  have in1 : ∀ w ∈ wsX10, w ∈ wsX1_takeAway := by decide +kernel
  have hl := lv_entry ([.ref (ad a), .ref (ad o), .long (lZ (T)), .int (nI (q))]) (n := 10) (Nat.le_of_ble_eq_true rfl)
  rw [lg_entry_eq]
  generalize (lg_sl ([.ref (ad a), .ref (ad o), .long (lZ (T)), .int (nI (q))]) ++ List.replicate (10 - (lg_sl ([.ref (ad a), .ref (ad o), .long (lZ (T)), .int (nI (q))])).length) Slot.unset).toArray = ls at hl ⊢
  have hl : lv_has ls 10 [(0, .ref (ad a)), (1, .ref (ad o)), (2, .long (lZ (T))), (4, .int (nI (q)))] := hl
  refine lv_lconst (v := lN (0)) hx hb dX1_takeAway_0 rfl ?_
  refine lv_lstore (lv' := [(5, .long (lN (0))), (0, .ref (ad a)), (1, .ref (ad o)), (2, .long (lZ (T))), (4, .int (nI (q)))]) hx hb dX1_takeAway_1 hl (by decide) rfl (fun ls hl => ?_)
  refine lv_iconst (v := nI (0)) hx hb dX1_takeAway_3 (by decide) ?_
  refine lv_istore (lv' := [(7, .int (nI (0))), (5, .long (lN (0))), (0, .ref (ad a)), (1, .ref (ad o)), (2, .long (lZ (T))), (4, .int (nI (q)))]) hx hb dX1_takeAway_4 hl (by decide) rfl (fun ls hl => ?_)
  refine lp_X1_takeAway (T := T) (F := F) ⟨hx, hb, hml, hown, hts⟩ hK hT (Nat.le_of_ble_eq_true rfl) (Nat.le_of_ble_eq_true rfl) ha1 ho1 ho n1 n2 n3 hat hT1 hT2 hF (fun cv G H locs ls h1 h2 h3 h4 h5 hP hD hS hl => ?_) (nd_s y) 0 0 F _ _ ls (by omega) (by rw [zv, Nat.pow_zero, Nat.mod_one]; simp) (by omega) (by omega) (fun j hj => absurd hj (Nat.not_lt_zero _)) (fun _ _ => rfl) hP hD hS (lv_sub hl [0, 1, 2, 3, 4, 5] rfl)
  refine lv_aload_n hx hb dX1_takeAway_75 rfl (lv_at hl 1 rfl) ?_
  refine rg_1_limbs hx hb hts in1 hown hK hP a (by omega) nw_o (hts _ (by decide +kernel)) dX1_takeAway_76 ?_
  refine lv_iload hx hb dX1_takeAway_79 (lv_at hl 3 rfl) ?_
  refine lv_aload_n hx hb dX1_takeAway_81 rfl (lv_at hl 2 rfl) ?_
  refine rg_1_size hx hb hts in1 hown hK hP o (by omega) ((nw_ne (by omega) (by omega)).trans ho.1) (hts _ (by decide +kernel)) dX1_takeAway_82 ?_
  refine lv_iadd hx hb dX1_takeAway_85 ?_
  refine tp_i (y := nI (q + (nd_s y))) (nI_add _ _) ?_
  refine lv_dup2_11 hx hb dX1_takeAway_86 rfl rfl ?_
  refine rn_l hx hb hK hP (a + 1) (by omega) nw_l (by omega) (by decide) dX1_takeAway_87 ?_
  refine tp_l (y := lZ (G (q + (nd_s y)))) rfl ?_
  refine lv_lload hx hb dX1_takeAway_88 (lv_at hl 0 rfl) ?_
  refine lv_ladd hx hb dX1_takeAway_90 ?_
  refine tp_l (y := lZ ((G (q + (nd_s y))) + cv)) (lZ_add _ _) ?_
  refine rt_l hx hb hK hP hD hS (a + 1) (by omega) nw_l (by omega) (by decide) dX1_takeAway_91 (fun H locs hP hD hS => ?_)
  rw [nw_sl] at hP hD
  rw [zf_up] at hP hD
  rw [Nat.mod_eq_of_lt (nd_s_lt y)] at h1
  have h9 : G (q + nd_s y) = F (q + nd_s y) := h5 _ (Or.inr (Nat.le_refl _))
  refine W.vret hx hb hr (fun t ht hW => ⟨⟨_, rfl, ⟨va_up G (q + nd_s y) (G (q + nd_s y) + cv), rfl, ?_, fun j hj => ?_, fun j hj => ?_⟩, wd_end hP hK hD ht hW⟩, hS.F ht⟩) hS.2.2 dX1_takeAway_92
  · rw [zv, zv, va_up_self, zv_congr (G := G) (fun j hj => va_up_ne _ _ (by omega)), h9, Int.add_mul]; omega
  · rw [va_up_ne _ _ (by omega)]; exact h4 j hj
  · rw [va_up_ne _ _ (by omega)]; exact h5 j (by omega)
end
section
theorem gs_main {W y M : Nat} (hM : 0 < M) (hy : 1000000 ≤ y / M) (hW : W < y * 1000000) : W / y ≤ W / M / (y / M) ∧ W / M / (y / M) ≤ W / y + 1 ∧ W / M / (y / M) ≤ 1000000 := by
  have y0 : 0 < y := by
    rcases Nat.eq_zero_or_pos y with q | q
    · rw [q, Nat.zero_div] at hy; omega
    · exact q
  generalize hl : y / M = l at *
  generalize hh : W / M = h
  generalize hQ : h / l = Q
  have l0 : 0 < l := by omega
  have e1 : l * M ≤ y := by rw [← hl]; exact Nat.div_mul_le_self y M
  have e2 : y < (l + 1) * M := by
    rw [← hl, Nat.add_mul, Nat.one_mul]
    have h5 := Nat.div_add_mod y M
    have h6 := Nat.mod_lt y hM
    rw [Nat.mul_comm] at h5
    omega
  have e3 : h * M ≤ W := by rw [← hh]; exact Nat.div_mul_le_self W M
  have e4 : Q * l ≤ h := by rw [← hQ]; exact Nat.div_mul_le_self h l
  have a1 : W / y ≤ Q := by
    rw [← hQ, Nat.le_div_iff_mul_le l0, ← hh, Nat.le_div_iff_mul_le hM]
    have b1 : W / y * y ≤ W := Nat.div_mul_le_self W y
    have b2 : W / y * (l * M) ≤ W / y * y := Nat.mul_le_mul_left _ e1
    rw [Nat.mul_assoc]; omega
  have a2 : Q ≤ 1000000 := by
    rcases Nat.lt_or_ge 1000000 Q with q | q
    · exfalso
      have b1 : 1000001 * l ≤ Q * l := Nat.mul_le_mul_right _ q
      have b2 : 1000001 * l * M ≤ h * M := Nat.mul_le_mul_right _ (by omega)
      have b3 : y * 1000000 ≤ (l + 1) * M * 1000000 := Nat.mul_le_mul_right _ (by omega)
      have b4 : 1000001 * l * M < (l + 1) * 1000000 * M := by
        rw [Nat.mul_assoc (l + 1) 1000000 M, Nat.mul_comm 1000000 M, ← Nat.mul_assoc]; omega
      have b5 := Nat.lt_of_mul_lt_mul_right b4
      omega
    · exact q
  refine ⟨a1, ?_, a2⟩
  rcases Nat.eq_zero_or_pos Q with q | q
  · rw [q]; exact Nat.zero_le _
  · have : Q - 1 ≤ W / y := by
      rw [Nat.le_div_iff_mul_le y0]
      have b1 : (Q - 1) * y ≤ (Q - 1) * ((l + 1) * M) := Nat.mul_le_mul_left _ (by omega)
      have b2 : (Q - 1) * (l + 1) ≤ Q * l := by
        obtain ⟨k, rfl⟩ : ∃ k, Q = k + 1 := ⟨Q - 1, by omega⟩
        rw [Nat.add_sub_cancel, Nat.mul_add, Nat.add_mul]; omega
      have b3 : (Q - 1) * (l + 1) * M ≤ h * M := Nat.mul_le_mul_right _ (by omega)
      rw [← Nat.mul_assoc] at b1
      omega
    omega
theorem nd_3 {R k : Nat} (h : R / 1000000 ^ (k + 3) = 0) : R / 1000000 ^ k = (nd_d R (k + 2) * 1000000 + nd_d R (k + 1)) * 1000000 + nd_d R k := by
  rw [nd_q, nd_q, nd_q] at h
  simp only [nd_d, nd_q]
  omega
theorem nd_2 {y k : Nat} (h : y / 1000000 ^ (k + 2) = 0) : y / 1000000 ^ k = nd_d y (k + 1) * 1000000 + nd_d y k := by
  rw [nd_q, nd_q] at h
  simp only [nd_d, nd_q]
  omega
/-- the guess of the class -/
def gs (R y q L : Nat) : Nat := if L = 0 then (nd_d R (q + L + 1) * 1000000 + nd_d R (q + L)) * 1000000 / (nd_d y L * 1000000) else ((nd_d R (q + L + 1) * 1000000 + nd_d R (q + L)) * 1000000 + nd_d R (q + L - 1)) / (nd_d y L * 1000000 + nd_d y (L - 1))
theorem gs_ok {R y q L : Nat} (hL : nd_s y = L + 1) (hR : R < y * 1000000 ^ (q + 1)) : R / 1000000 ^ q / y ≤ gs R y q L ∧ gs R y q L ≤ R / 1000000 ^ q / y + 1 ∧ gs R y q L ≤ 1000000 := by
  have hy1 : y < 1000000 ^ (L + 1) := by rw [← hL]; exact nd_s_lt y
  have hy2 : 1000000 ^ L ≤ y := nd_s_gt.mp (by omega)
  have hW : R / 1000000 ^ q < y * 1000000 := by
    rw [Nat.div_lt_iff_lt_mul (Nat.pow_pos (by decide)), Nat.mul_assoc, Nat.mul_comm 1000000, ← Nat.pow_succ]; exact hR
  have hRz : R / 1000000 ^ (q + L + 2) = 0 := Nat.div_eq_of_lt (by
    refine Nat.lt_trans hR ?_
    rw [show q + L + 2 = (L + 1) + (q + 1) by omega, Nat.pow_add 1000000 (L + 1) (q + 1)]
    exact Nat.mul_lt_mul_of_pos_right hy1 (Nat.pow_pos (n := q + 1) (show 0 < 1000000 by decide)))
  rw [gs]
  by_cases h0 : L = 0
  · subst h0
    rw [if_pos rfl, Nat.mul_div_mul_right _ _ (by decide)]
    have e1 : nd_d y 0 = y := by rw [nd_d, nd_q0, Nat.mod_eq_of_lt (by simpa using hy1)]
    have e2 : nd_d R (q + 0 + 1) * 1000000 + nd_d R (q + 0) = R / 1000000 ^ q := (nd_2 (by simpa using hRz)).symm
    rw [e1, e2]
    have : R / 1000000 ^ q / y < 1000000 := by
      rw [Nat.div_lt_iff_lt_mul (by omega), Nat.mul_comm]; exact hW
    omega
  · obtain ⟨k, rfl⟩ : ∃ k, L = k + 1 := ⟨L - 1, by omega⟩
    rw [if_neg h0]
    have e1 : nd_d y (k + 1) * 1000000 + nd_d y (k + 1 - 1) = y / 1000000 ^ k := (nd_2 (Nat.div_eq_of_lt hy1)).symm
    have e2 : (nd_d R (q + (k + 1) + 1) * 1000000 + nd_d R (q + (k + 1))) * 1000000 + nd_d R (q + (k + 1) - 1) = R / 1000000 ^ q / 1000000 ^ k := by
      rw [Nat.div_div_eq_div_mul, ← Nat.pow_add]
      exact (nd_3 (k := q + k) hRz).symm
    rw [e1, e2]
    refine gs_main (Nat.pow_pos (by decide)) ?_ hW
    rw [Nat.le_div_iff_mul_le (Nat.pow_pos (by decide)), Nat.mul_comm, ← Nat.pow_succ]; exact hy2
theorem zf_nd (R : Nat) : nd_A R = zf (fun j => (nd_d R j : Int)) := by
  funext j; rw [nd_A, zf, lZ_nat]
theorem zv_nd (R q : Nat) : ∀ k, zv (fun j => (nd_d R j : Int)) q k = ((R / 1000000 ^ q % 1000000 ^ k : Nat) : Int) := by
  intro k
  induction k with
  | zero => rw [zv, Nat.pow_zero, Nat.mod_one]; rfl
  | succ k ih =>
    rw [zv, ih, nd_ms, nd_d, nd_d, Nat.div_div_eq_div_mul, ← Nat.pow_add, Int.natCast_add, Int.natCast_mul, Int.mul_comm]
theorem zv_lo {G : Nat → Int} {q : Nat} : ∀ {k : Nat}, (∀ j, j < k → 0 ≤ G (q + j) ∧ G (q + j) < 1000000) → 0 ≤ zv G q k ∧ zv G q k < (1000000 ^ k : Nat) := by
  intro k
  induction k with
  | zero => intro _; rw [zv, Nat.pow_zero]; decide
  | succ k ih =>
    intro h
    have h1 := ih (fun j hj => h j (by omega))
    have h2 := h k (by omega)
    rw [zv, Nat.pow_succ, Int.natCast_mul]
    generalize ((1000000 ^ k : Nat) : Int) = p at *
    have e1 : 0 ≤ G (q + k) * p := Int.mul_nonneg h2.1 (by omega)
    have e2 : G (q + k) * p ≤ 999999 * p := Int.mul_le_mul_of_nonneg_right (by omega) (by omega)
    constructor
    · omega
    · show _ < p * 1000000
      omega
/-- the limbs of the window are its number's -/
theorem zv_dig {G : Nat → Int} {q r : Nat} : ∀ {k : Nat}, (∀ j, j < k → 0 ≤ G (q + j) ∧ G (q + j) < 1000000) → zv G q k = ((r % 1000000 ^ k : Nat) : Int) → ∀ j, j < k → G (q + j) = (nd_d r j : Int) := by
  intro k
  induction k with
  | zero => intro _ _ j hj; omega
  | succ k ih =>
    intro h hz
    have h1 := zv_lo (k := k) (fun j hj => h j (by omega))
    have h2 := h k (by omega)
    rw [zv, nd_ms, Int.natCast_add, Int.natCast_mul] at hz
    have h3 : r % 1000000 ^ k < 1000000 ^ k := Nat.mod_lt _ (Nat.pow_pos (by decide))
    have h4 : 0 < 1000000 ^ k := Nat.pow_pos (by decide)
    have h5 : G (q + k) = (nd_d r k : Int) := by
      generalize hp : 1000000 ^ k = p at *
      rcases Int.lt_trichotomy (G (q + k)) (nd_d r k) with w | w | w
      · have := Int.mul_le_mul_of_nonneg_right (show G (q + k) ≤ (nd_d r k : Int) - 1 by omega) (show (0 : Int) ≤ p by omega)
        rw [Int.sub_mul, Int.mul_comm (nd_d r k : Int)] at this
        omega
      · exact w
      · have := Int.mul_le_mul_of_nonneg_right (show (nd_d r k : Int) + 1 ≤ G (q + k) by omega) (show (0 : Int) ≤ p by omega)
        rw [Int.add_mul, Int.mul_comm (nd_d r k : Int)] at this
        omega
    intro j hj
    rcases Nat.lt_or_ge j k with w | w
    · refine ih (fun j hj => h j (by omega)) ?_ j w
      rw [h5, Int.mul_comm] at hz
      omega
    · obtain rfl : j = k := by omega
      exact h5
/-- the window's highest limb, by its number -/
theorem zv_top {G : Nat → Int} {q k : Nat} {t : Int} (h : ∀ j, j < k → 0 ≤ G (q + j) ∧ G (q + j) < 1000000) (hz : zv G q (k + 1) = t) : (0 ≤ t → t < (1000000 ^ k : Nat) → G (q + k) = 0) ∧ (t < 0 → -((1000000 ^ k : Nat) : Int) ≤ t → G (q + k) < 0) := by
  have h1 := zv_lo (k := k) h
  rw [zv] at hz
  generalize ((1000000 ^ k : Nat) : Int) = p at *
  constructor
  · intro a b
    rcases Int.lt_trichotomy (G (q + k)) 0 with w | w | w
    · have := Int.mul_le_mul_of_nonneg_right (show G (q + k) ≤ -1 by omega) (show (0 : Int) ≤ p by omega)
      omega
    · exact w
    · have := Int.mul_le_mul_of_nonneg_right (show 1 ≤ G (q + k) by omega) (show (0 : Int) ≤ p by omega)
      omega
  · intro a b
    rcases Int.lt_or_le (G (q + k)) 0 with w | w
    · exact w
    · have := Int.mul_le_mul_of_nonneg_right w (show (0 : Int) ≤ p by omega)
      omega
/-- one place of the division is done -/
theorem td_fin {G : Nat → Int} {R y q : Nat} (hy : 0 < y) (hR : R < y * 1000000 ^ (q + 1)) (h1 : ∀ j, j < nd_s y → 0 ≤ G (q + j) ∧ G (q + j) < 1000000) (h2 : ∀ j, j < q ∨ q + nd_s y + 1 ≤ j → G j = (nd_d R j : Int)) (hz : zv G q (nd_s y + 1) = ((R / 1000000 ^ q % y : Nat) : Int)) : zf G = nd_A (R % (y * 1000000 ^ q)) := by
  have hr : R / 1000000 ^ q % y < y := Nat.mod_lt _ hy
  have hyb := nd_s_lt y
  have ht : G (q + nd_s y) = 0 := (zv_top h1 hz).1 (by omega) (by omega)
  have hz' : zv G q (nd_s y) = ((R / 1000000 ^ q % y % 1000000 ^ nd_s y : Nat) : Int) := by
    rw [zv, ht] at hz
    rw [Nat.mod_eq_of_lt (by omega : R / 1000000 ^ q % y < 1000000 ^ nd_s y)]
    omega
  have hd := zv_dig h1 hz'
  have hV : R % (y * 1000000 ^ q) = R % 1000000 ^ q + 1000000 ^ q * (R / 1000000 ^ q % y) := by
    rw [Nat.mul_comm y, Nat.mod_mul]
  have hp : 0 < 1000000 ^ q := Nat.pow_pos (by decide)
  have hVq : R % (y * 1000000 ^ q) / 1000000 ^ q = R / 1000000 ^ q % y := by
    rw [hV, Nat.add_mul_div_left _ _ hp, Nat.div_eq_of_lt (Nat.mod_lt _ hp), Nat.zero_add]
  have hdig : ∀ j, nd_d (R % (y * 1000000 ^ q)) (q + j) = nd_d (R / 1000000 ^ q % y) j := fun j => by
    rw [nd_d, Nat.pow_add, ← Nat.div_div_eq_div_mul, hVq, nd_d]
  funext j
  rw [zf, nd_A, lZ_nat]
  congr 1
  rcases Nat.lt_or_ge j q with w | w
  · rw [h2 j (Or.inl w)]
    congr 1
    rw [nd_d, nd_d, hV]
    obtain ⟨e, rfl⟩ : ∃ e, q = j + (e + 1) := ⟨q - j - 1, by omega⟩
    have e3 : ∀ z, 1000000 ^ (j + (e + 1)) * z = 1000000 ^ j * (1000000 * (1000000 ^ e * z)) := fun z => by
      rw [Nat.pow_add, Nat.pow_succ, Nat.mul_assoc, Nat.mul_comm (1000000 ^ e) 1000000, Nat.mul_assoc]
    rw [e3, Nat.add_mul_div_left _ _ (Nat.pow_pos (n := j) (show 0 < 1000000 by decide))]
    have e2 : R % 1000000 ^ (j + (e + 1)) / 1000000 ^ j % 1000000 = R / 1000000 ^ j % 1000000 := by
      rw [Nat.pow_add, Nat.mod_mul_right_div_self, Nat.pow_succ, Nat.mul_comm, Nat.mod_mul_right_mod]
    omega
  · obtain ⟨e, rfl⟩ : ∃ e, j = q + e := ⟨j - q, by omega⟩
    rw [hdig]
    rcases Nat.lt_trichotomy e (nd_s y) with v | v | v
    · exact hd e v
    · subst v
      rw [ht, nd_dz (n := R / 1000000 ^ q % y) (k := nd_s y) (by omega) (Nat.le_refl _)]; rfl
    · rw [h2 (q + e) (Or.inr (by omega)), nd_dz (n := R / 1000000 ^ q % y) (k := nd_s y) (by omega) (by omega)]
      rw [nd_dz (n := R) (k := q + nd_s y + 1) ?_ (by omega)]
      refine Nat.lt_trans hR ?_
      rw [show q + nd_s y + 1 = nd_s y + (q + 1) by omega, Nat.pow_add 1000000 (nd_s y) (q + 1)]
      exact Nat.mul_lt_mul_of_pos_right hyb (Nat.pow_pos (n := q + 1) (show 0 < 1000000 by decide))
theorem td_q (x y q : Nat) : x % (y * 1000000 ^ (q + 1)) / 1000000 ^ q / y = nd_d (x / y) q := by
  rw [nd_d, Nat.div_div_eq_div_mul, Nat.div_div_eq_div_mul, Nat.pow_succ, ← Nat.mul_assoc, Nat.mul_comm (1000000 ^ q) y, Nat.mod_mul_right_div_self]
theorem td_m (x y q : Nat) : x % (y * 1000000 ^ (q + 1)) % (y * 1000000 ^ q) = x % (y * 1000000 ^ q) := by
  rw [Nat.pow_succ, ← Nat.mul_assoc, Nat.mod_mul_right_mod]
theorem nw_comm {cA : Nat → ClassId} {ad : Nat → Nat} {g : Nat → va_E} {a w : Nat} {f fq : Nat → Int64} {sv sq : Int32} (h1 : w ≠ a) (h2 : w ≠ a + 1) (h3 : w + 1 ≠ a) : nw_ cA ad (nw_ cA ad g w fq sq) a f sv = nw_ cA ad (nw_ cA ad g a f sv) w fq sq := by
  funext j
  simp only [nw_]
  by_cases r1 : j = a
  · subst r1; simp [show ¬ j = w by omega, show ¬ j = w + 1 by omega]
  · by_cases r2 : j = a + 1
    · subst r2; simp [show ¬ a + 1 = w by omega, show ¬ a = w by omega]
    · simp [r1, r2]
theorem is_nw {cA : Nat → ClassId} {ad : Nat → Nat} {g : Nat → va_E} {a o y : Nat} {f : Nat → Int64} {sv : Int32} (h1 : a ≠ o) (h2 : a ≠ o + 1) (h3 : a + 1 ≠ o) (h : is_N cA ad g o y) : is_N cA ad (nw_ cA ad g a f sv) o y :=
  ⟨(nw_ne (by omega) (by omega)).trans h.1, (nw_ne (by omega) (by omega)).trans h.2⟩
set_option maxHeartbeats 4000000 in
set_option maxRecDepth 100000 in
/-- guess -/
theorem c_X1_guess (l : Launch) (D : va_G) (cA : Nat → ClassId) (tT : Nat) (A : Nat → Prop) (N : Nat) (ad : Nat → Nat) (sz : Nat) (g : Nat → va_E) {a o y q Rv L : Nat} {sv : Int32} (ha1 : a + 1 < N) (ho1 : o + 1 < N) (ho : is_N cA ad g o y) (n1 : a ≠ o) (n2 : a ≠ o + 1) (n3 : a + 1 ≠ o) (hat : q + nd_s y < 64) (hL : nd_s y = L + 1) : Met l yX1_guess wsX1_guess ({ frames := 0, cells := 0, slots := 0, locals := 0 }) (va_Pc [.ref (ad a), .ref (ad o), .int (nI (q))] (wd_B D cA tT A N ad sz (nw_ cA ad g a (nd_A Rv) sv))) (va_Ql (fun (r : Int64) (u : Nat → va_E) => r = lN (gs Rv y q L) ∧ u = nw_ cA ad g a (nd_A Rv) sv) (wd_E D cA A N ad) A) 0 0 A := by
  refine Met.ofW (cc := cX1_guess) (maxL := 8) (ret := (some .long)) (by decide) rfl ?_
  intro p e s m args below meth c s₁ B hml hv
  obtain ⟨rfl, hsz, hP, hK, hD, hT⟩ := hv
  have hx := B.exec
  have hb := B.bytes
  have hr := B.returns
  have hts := atoms_spec (ws := wsX1_guess) B.pre
  have hown : s.vm.findClass RX1 = some m.cls := findClass_of_methodNamed B.named
  have hlocks := B.notSynchronized
  subst hsz
  have hS : va_S A s.heap s.heap [] := va_S.rf
  have in1 : ∀ w ∈ wsX10, w ∈ wsX1_guess := by decide +kernel
  have hl := lv_entry ([.ref (ad a), .ref (ad o), .int (nI (q))]) (n := 8) (Nat.le_of_ble_eq_true rfl)
  rw [lg_entry_eq]
  generalize (lg_sl ([.ref (ad a), .ref (ad o), .int (nI (q))]) ++ List.replicate (8 - (lg_sl ([.ref (ad a), .ref (ad o), .int (nI (q))])).length) Slot.unset).toArray = ls at hl ⊢
  have hl : lv_has ls 8 [(0, .ref (ad a)), (1, .ref (ad o)), (2, .int (nI (q)))] := hl
  have d1 := nd_lt Rv (q + L + 1)
  have d2 := nd_lt Rv (q + L)
  have d3 := nd_lt Rv (q + L - 1)
  have d4 := nd_lt y L
  have d5 := nd_lt y (L - 1)
  have d6 := nd_top hL
  refine lv_aload_n hx hb dX1_guess_0 rfl (lv_at hl 1 rfl) ?_
  refine rg_1_size hx hb hts in1 hown hK hP o (by omega) ((nw_ne (by omega) (by omega)).trans ho.1) (hts _ (by decide +kernel)) dX1_guess_1 ?_
  refine lv_iconst (v := nI (1)) hx hb dX1_guess_4 (by decide) ?_
  refine lv_isub hx hb dX1_guess_5 ?_
  refine tp_i (y := nI (L)) (by rw [hL]; exact nI_sub1 L) ?_
  refine lv_istore_n (lv' := [(3, .int (nI (L))), (0, .ref (ad a)), (1, .ref (ad o)), (2, .int (nI (q)))]) hx hb dX1_guess_6 rfl hl (by decide) rfl (fun ls hl => ?_)
  refine lv_aload_n hx hb dX1_guess_7 rfl (lv_at hl 1 rfl) ?_
  refine rg_1_limbs hx hb hts in1 hown hK hP a (by omega) nw_o (hts _ (by decide +kernel)) dX1_guess_8 ?_
  refine lv_iload_n hx hb dX1_guess_11 rfl (lv_at hl 3 rfl) ?_
  refine lv_iload_n hx hb dX1_guess_12 rfl (lv_at hl 0 rfl) ?_
  refine lv_iadd hx hb dX1_guess_13 ?_
  refine tp_i (y := nI (q + L)) (nI_add _ _) ?_
  refine lv_iconst (v := nI (1)) hx hb dX1_guess_14 (by decide) ?_
  refine lv_iadd hx hb dX1_guess_15 ?_
  refine tp_i (y := nI ((q + L) + 1)) (nI_add _ _) ?_
  refine rn_l hx hb hK hP (a + 1) (by omega) nw_l (by omega) (by decide) dX1_guess_16 ?_
  refine tp_l (y := lN (nd_d Rv ((q + L) + 1))) rfl ?_
  refine lv_ldc2 (v := lN (1000000)) hx hb hown (hts _ (by decide +kernel)) dX1_guess_17 ?_
  refine lv_lmul hx hb dX1_guess_20 ?_
  refine tp_l (y := lN ((nd_d Rv ((q + L) + 1)) * 1000000)) (lN_mul _ _) ?_
  refine lv_aload_n hx hb dX1_guess_21 rfl (lv_at hl 1 rfl) ?_
  refine rg_1_limbs hx hb hts in1 hown hK hP a (by omega) nw_o (hts _ (by decide +kernel)) dX1_guess_22 ?_
  refine lv_iload_n hx hb dX1_guess_25 rfl (lv_at hl 3 rfl) ?_
  refine lv_iload_n hx hb dX1_guess_26 rfl (lv_at hl 0 rfl) ?_
  refine lv_iadd hx hb dX1_guess_27 ?_
  refine tp_i (y := nI (q + L)) (nI_add _ _) ?_
  refine rn_l hx hb hK hP (a + 1) (by omega) nw_l (by omega) (by decide) dX1_guess_28 ?_
  refine tp_l (y := lN (nd_d Rv (q + L))) rfl ?_
  refine lv_ladd hx hb dX1_guess_29 ?_
  refine tp_l (y := lN (((nd_d Rv ((q + L) + 1)) * 1000000) + (nd_d Rv (q + L)))) (lN_add _ _) ?_
  refine lv_ldc2 (v := lN (1000000)) hx hb hown (hts _ (by decide +kernel)) dX1_guess_30 ?_
  refine lv_lmul hx hb dX1_guess_33 ?_
  refine tp_l (y := lN ((((nd_d Rv ((q + L) + 1)) * 1000000) + (nd_d Rv (q + L))) * 1000000)) (lN_mul _ _) ?_
  refine lv_lstore (lv' := [(4, .long (lN ((((nd_d Rv ((q + L) + 1)) * 1000000) + (nd_d Rv (q + L))) * 1000000))), (3, .int (nI (L))), (0, .ref (ad a)), (1, .ref (ad o)), (2, .int (nI (q)))]) hx hb dX1_guess_34 hl (by decide) rfl (fun ls hl => ?_)
  refine lv_aload_n hx hb dX1_guess_36 rfl (lv_at hl 3 rfl) ?_
  refine rg_1_limbs hx hb hts in1 hown hK hP o (by omega) ((nw_ne (by omega) (by omega)).trans ho.1) (hts _ (by decide +kernel)) dX1_guess_37 ?_
  refine lv_iload_n hx hb dX1_guess_40 rfl (lv_at hl 1 rfl) ?_
  refine rn_l hx hb hK hP (o + 1) (by omega) ((nw_ne (by omega) (by omega)).trans ho.2) (by omega) (by decide) dX1_guess_41 ?_
  refine tp_l (y := lN (nd_d y L)) rfl ?_
  refine lv_ldc2 (v := lN (1000000)) hx hb hown (hts _ (by decide +kernel)) dX1_guess_42 ?_
  refine lv_lmul hx hb dX1_guess_45 ?_
  refine tp_l (y := lN ((nd_d y L) * 1000000)) (lN_mul _ _) ?_
  refine lv_lstore (lv' := [(6, .long (lN ((nd_d y L) * 1000000))), (4, .long (lN ((((nd_d Rv ((q + L) + 1)) * 1000000) + (nd_d Rv (q + L))) * 1000000))), (3, .int (nI (L))), (0, .ref (ad a)), (1, .ref (ad o)), (2, .int (nI (q)))]) hx hb dX1_guess_46 hl (by decide) rfl (fun ls hl => ?_)
  refine lv_iload_n hx hb dX1_guess_48 rfl (lv_at hl 2 rfl) ?_
  refine bz_le (tgt := 80) hx hb dX1_guess_49 (by decide) (by omega) (fun q9 => ?_) (fun q9 => ?_)
  · refine lv_lload hx hb dX1_guess_80 (lv_at hl 0 rfl) ?_
    refine lv_lconst (v := lN (0)) hx hb dX1_guess_82 rfl ?_
    refine bl_ne (tgt := 91) hx hb dX1_guess_83 dX1_guess_84 (by decide) (by omega) (by omega) (fun q8 => ?_) (fun q8 => ?_)
    · refine lv_lload hx hb dX1_guess_91 (lv_at hl 1 rfl) ?_
      refine lv_lload hx hb dX1_guess_93 (lv_at hl 0 rfl) ?_
      refine lv_ldiv hx hb dX1_guess_95 (lN_ne0 (by omega) (by omega)) ?_
      refine tp_l (y := lN (((((nd_d Rv ((q + L) + 1)) * 1000000) + (nd_d Rv (q + L))) * 1000000) / ((nd_d y L) * 1000000))) (pk_lDiv (by omega) (by omega) (by omega)) ?_
      exact W.lret (v := lN (((((nd_d Rv ((q + L) + 1)) * 1000000) + (nd_d Rv (q + L))) * 1000000) / ((nd_d y L) * 1000000))) hx hb hr (fun t ht hW => ⟨⟨lN (((((nd_d Rv ((q + L) + 1)) * 1000000) + (nd_d Rv (q + L))) * 1000000) / ((nd_d y L) * 1000000)), _, rfl, ⟨by rw [gs, if_pos (by omega)], rfl⟩, wd_end hP hK hD ht hW⟩, hS.F ht⟩) hS.2.2 dX1_guess_96
    · exact absurd q8 (by omega)
  · refine lv_lload hx hb dX1_guess_52 (lv_at hl 1 rfl) ?_
    refine lv_aload_n hx hb dX1_guess_54 rfl (lv_at hl 3 rfl) ?_
    refine rg_1_limbs hx hb hts in1 hown hK hP a (by omega) nw_o (hts _ (by decide +kernel)) dX1_guess_55 ?_
    refine lv_iload_n hx hb dX1_guess_58 rfl (lv_at hl 5 rfl) ?_
    refine lv_iload_n hx hb dX1_guess_59 rfl (lv_at hl 2 rfl) ?_
    refine lv_iadd hx hb dX1_guess_60 ?_
    refine tp_i (y := nI (q + L)) (nI_add _ _) ?_
    refine lv_iconst (v := nI (1)) hx hb dX1_guess_61 (by decide) ?_
    refine lv_isub hx hb dX1_guess_62 ?_
    refine tp_i (y := nI ((q + L) - 1)) (pk_sub (by omega)) ?_
    refine rn_l hx hb hK hP (a + 1) (by omega) nw_l (by omega) (by decide) dX1_guess_63 ?_
    refine tp_l (y := lN (nd_d Rv ((q + L) - 1))) rfl ?_
    refine lv_ladd hx hb dX1_guess_64 ?_
    refine tp_l (y := lN (((((nd_d Rv ((q + L) + 1)) * 1000000) + (nd_d Rv (q + L))) * 1000000) + (nd_d Rv ((q + L) - 1)))) (lN_add _ _) ?_
    refine lv_lstore (lv' := [(4, .long (lN (((((nd_d Rv ((q + L) + 1)) * 1000000) + (nd_d Rv (q + L))) * 1000000) + (nd_d Rv ((q + L) - 1))))), (6, .long (lN ((nd_d y L) * 1000000))), (3, .int (nI (L))), (0, .ref (ad a)), (1, .ref (ad o)), (2, .int (nI (q)))]) hx hb dX1_guess_65 hl (by decide) rfl (fun ls hl => ?_)
    refine lv_lload hx hb dX1_guess_67 (lv_at hl 1 rfl) ?_
    refine lv_aload_n hx hb dX1_guess_69 rfl (lv_at hl 4 rfl) ?_
    refine rg_1_limbs hx hb hts in1 hown hK hP o (by omega) ((nw_ne (by omega) (by omega)).trans ho.1) (hts _ (by decide +kernel)) dX1_guess_70 ?_
    refine lv_iload_n hx hb dX1_guess_73 rfl (lv_at hl 2 rfl) ?_
    refine lv_iconst (v := nI (1)) hx hb dX1_guess_74 (by decide) ?_
    refine lv_isub hx hb dX1_guess_75 ?_
    refine tp_i (y := nI (L - 1)) (pk_sub (by omega)) ?_
    refine rn_l hx hb hK hP (o + 1) (by omega) ((nw_ne (by omega) (by omega)).trans ho.2) (by omega) (by decide) dX1_guess_76 ?_
    refine tp_l (y := lN (nd_d y (L - 1))) rfl ?_
    refine lv_ladd hx hb dX1_guess_77 ?_
    refine tp_l (y := lN (((nd_d y L) * 1000000) + (nd_d y (L - 1)))) (lN_add _ _) ?_
    refine lv_lstore (lv' := [(6, .long (lN (((nd_d y L) * 1000000) + (nd_d y (L - 1))))), (4, .long (lN (((((nd_d Rv ((q + L) + 1)) * 1000000) + (nd_d Rv (q + L))) * 1000000) + (nd_d Rv ((q + L) - 1))))), (3, .int (nI (L))), (0, .ref (ad a)), (1, .ref (ad o)), (2, .int (nI (q)))]) hx hb dX1_guess_78 hl (by decide) rfl (fun ls hl => ?_)
    refine lv_lload hx hb dX1_guess_80 (lv_at hl 0 rfl) ?_
    refine lv_lconst (v := lN (0)) hx hb dX1_guess_82 rfl ?_
    refine bl_ne (tgt := 91) hx hb dX1_guess_83 dX1_guess_84 (by decide) (by omega) (by omega) (fun q8 => ?_) (fun q8 => ?_)
    · refine lv_lload hx hb dX1_guess_91 (lv_at hl 1 rfl) ?_
      refine lv_lload hx hb dX1_guess_93 (lv_at hl 0 rfl) ?_
      refine lv_ldiv hx hb dX1_guess_95 (lN_ne0 (by omega) (by omega)) ?_
      refine tp_l (y := lN ((((((nd_d Rv ((q + L) + 1)) * 1000000) + (nd_d Rv (q + L))) * 1000000) + (nd_d Rv ((q + L) - 1))) / (((nd_d y L) * 1000000) + (nd_d y (L - 1))))) (pk_lDiv (by omega) (by omega) (by omega)) ?_
      exact W.lret (v := lN ((((((nd_d Rv ((q + L) + 1)) * 1000000) + (nd_d Rv (q + L))) * 1000000) + (nd_d Rv ((q + L) - 1))) / (((nd_d y L) * 1000000) + (nd_d y (L - 1))))) hx hb hr (fun t ht hW => ⟨⟨lN ((((((nd_d Rv ((q + L) + 1)) * 1000000) + (nd_d Rv (q + L))) * 1000000) + (nd_d Rv ((q + L) - 1))) / (((nd_d y L) * 1000000) + (nd_d y (L - 1)))), _, rfl, ⟨by rw [gs, if_neg (by omega)], rfl⟩, wd_end hP hK hD ht hW⟩, hS.F ht⟩) hS.2.2 dX1_guess_96
    · exact absurd q8 (by omega)
end
section
theorem nw_sl2 {cA : Nat → ClassId} {ad : Nat → Nat} {g : Nat → va_E} {a w : Nat} {f fq fq' : Nat → Int64} {sv sq : Int32} (h1 : w ≠ a) (h2 : w ≠ a + 1) (h3 : w + 1 ≠ a) : va_up (nw_ cA ad (nw_ cA ad g w fq sq) a f sv) (w + 1) (.inl (cA 0, 64, .inr (.inl fq'))) = nw_ cA ad (nw_ cA ad g w fq' sq) a f sv := by
  rw [nw_comm h1 h2 h3, nw_sl, nw_comm h1 h2 h3]
theorem nw_so2 {cA : Nat → ClassId} {ad : Nat → Nat} {g : Nat → va_E} {a w : Nat} {f fq : Nat → Int64} {sv sq v : Int32} (h1 : w ≠ a) (h2 : w ≠ a + 1) (h3 : w + 1 ≠ a) : va_up (nw_ cA ad (nw_ cA ad g w fq sq) a f sv) w (.inr (1, [.ref (ad (w + 1)), .int v])) = nw_ cA ad (nw_ cA ad g w fq v) a f sv := by
  rw [nw_comm h1 h2 h3, nw_so, nw_comm h1 h2 h3]
/-- the quotient's limbs from a place on -/
def qd (Q k : Nat) : Nat → Nat := fun j => if k ≤ j then nd_d Q j else 0
theorem qd_up (Q k : Nat) : va_up (qd Q (k + 1)) k (nd_d Q k) = qd Q k := by
  funext j
  simp only [va_up, qd]
  by_cases h : j = k
  · subst h; simp
  · rw [if_neg h]
    by_cases h2 : k ≤ j
    · rw [if_pos h2, if_pos (by omega)]
    · rw [if_neg h2, if_neg (by omega)]
theorem qd_0 (Q : Nat) : nf (qd Q 0) = nd_A Q := by funext j; simp [nf, qd, nd_A]
theorem qd_hi {Q k : Nat} (h : Q < 1000000 ^ k) : qd Q k = fun _ => 0 := by
  funext j
  simp only [qd]
  by_cases h2 : k ≤ j
  · rw [if_pos h2, nd_dz h h2]
  · rw [if_neg h2]
theorem to_lt {x y : Nat} (h : nd_s y ≤ nd_s x) (hy : y ≠ 0) : x < y * 1000000 ^ (nd_s x - nd_s y + 1) := by
  have h0 : 0 < nd_s y := by
    rcases Nat.eq_zero_or_pos (nd_s y) with q | q
    · exact absurd (nd_s_z.mp q) hy
    · exact q
  have h1 : 1000000 ^ (nd_s y - 1) ≤ y := nd_s_gt.mp (by omega)
  have h2 : 1000000 ^ nd_s x ≤ y * 1000000 ^ (nd_s x - nd_s y + 1) := by
    rw [show nd_s x = (nd_s y - 1) + (nd_s x - nd_s y + 1) by omega, Nat.pow_add]
    rw [show nd_s y - 1 + (nd_s x - nd_s y + 1) - nd_s y + 1 = nd_s x - nd_s y + 1 by omega]
    exact Nat.mul_le_mul_right _ h1
  exact Nat.lt_of_lt_of_le (nd_s_lt x) h2
set_option maxHeartbeats 4000000 in
set_option maxRecDepth 100000 in
theorem lp_X1_takeOut {p : Program} {l : Launch} {e : Env} {R : Room} {s : State} {m : MethodId} {args : Array Value} {below : List Frame} {meth : Method} {c : Code} {Q : State → Prop} {D : va_G} {cA : Nat → ClassId} {tT : Nat} {A : Nat → Prop} {N : Nat} {ad : Nat → Nat} {g : Nat → va_E} {a o w x y M : Nat} (S : CallFix p m c cX1_takeOut 7 s args wsX1_takeOut RX1) (hK : va_K D vwCl (ty_s cA) s) (hT : st_T tT A s s.heap) (hRf : 2 ≤ R.frames) (hRl : 54 ≤ R.locals) (ha1 : a + 1 < N) (ho1 : o + 1 < N) (hw1 : w + 1 < N) (ho : is_N cA ad g o y) (n1 : a ≠ o) (n2 : a ≠ o + 1) (n3 : a + 1 ≠ o) (m1 : w ≠ a) (m2 : w ≠ a + 1) (m3 : w + 1 ≠ a) (p1 : w ≠ o) (p2 : w ≠ o + 1) (p3 : w + 1 ≠ o) (hx64 : nd_s x < 64) (hy0 : y ≠ 0) (kk : ∀ (H : Heap) (locs : List Loc) (ls : Array Slot), va_P D vwCl (wm_W N ad (nw_ cA ad (nw_ cA ad g w (nf (qd (x / y) 0)) (nI 0)) a (nd_A (x % (y * 1000000 ^ 0))) (nI (nd_s x)))) H → va_D A (wm_W N ad (nw_ cA ad (nw_ cA ad g w (nf (qd (x / y) 0)) (nI 0)) a (nd_A (x % (y * 1000000 ^ 0))) (nI (nd_s x)))) → va_S A s.heap H locs → lv_has ls 7 [(3, .int (nI M)), (0, .ref (ad a)), (1, .ref (ad o)), (2, .ref (ad w))] → W p l e R s m args below meth c H locs 0 0 Q (F0 m 116 ls [])) :
    ∀ (k : Nat) (H : Heap) (locs : List Loc) (ls : Array Slot), k + nd_s y ≤ nd_s x + 1 → va_P D vwCl (wm_W N ad (nw_ cA ad (nw_ cA ad g w (nf (qd (x / y) k)) (nI 0)) a (nd_A (x % (y * 1000000 ^ k))) (nI (nd_s x)))) H → va_D A (wm_W N ad (nw_ cA ad (nw_ cA ad g w (nf (qd (x / y) k)) (nI 0)) a (nd_A (x % (y * 1000000 ^ k))) (nI (nd_s x)))) → va_S A s.heap H locs → lv_has ls 7 [(4, .int (dn k)), (3, .int (nI (M))), (0, .ref (ad a)), (1, .ref (ad o)), (2, .ref (ad w))] → W p l e R s m args below meth c H locs 0 0 Q (F0 m 45 ls []) := by
  obtain ⟨hx, hb, hml, hown, hts⟩ := S
  have in1 : ∀ w ∈ wsX10, w ∈ wsX1_takeOut := by decide +kernel
  have hsy : 0 < nd_s y := by
    rcases Nat.eq_zero_or_pos (nd_s y) with q | q
    · exact absurd (nd_s_z.mp q) hy0
    · exact q
  obtain ⟨L, hL⟩ : ∃ L, nd_s y = L + 1 := ⟨nd_s y - 1, by omega⟩
  intro k
  induction k with
  | zero =>
    intro H locs ls hk hP hD hS hl
    refine lv_iload hx hb dX1_takeOut_45 (lv_at hl 0 rfl) ?_
    refine by_lt (tgt := 116) hx hb dX1_takeOut_47 (by decide) (by omega) (by omega) (fun q9 => ?_) (fun q9 => ?_)
    · exact kk H locs ls hP hD hS (lv_sub hl [1, 2, 3, 4] rfl)
    · exact absurd (by decide) q9
  | succ k ih =>
    intro H locs ls hk hP hD hS hl
    generalize hRe : x % (y * 1000000 ^ (k + 1)) = Rv at hP hD
    have hy00 : 0 < y := Nat.pos_of_ne_zero hy0
    have hRv : Rv < y * 1000000 ^ (k + 1) := by rw [← hRe]; exact Nat.mod_lt _ (Nat.mul_pos hy00 (Nat.pow_pos (by decide)))
    have hQt : Rv / 1000000 ^ k / y = nd_d (x / y) k := by rw [← hRe]; exact td_q x y k
    have hRm : Rv % (y * 1000000 ^ k) = x % (y * 1000000 ^ k) := by rw [← hRe]; exact td_m x y k
    have hgs := gs_ok hL hRv
    have hoB := is_nw (f := nf (qd (x / y) (k + 1))) (sv := nI 0) p1 p2 p3 ho
    have hyb := nd_s_lt y
    have hWb : Rv / 1000000 ^ k < 1000000 ^ (nd_s y + 1) := by
      rw [Nat.div_lt_iff_lt_mul (Nat.pow_pos (by decide)), ← Nat.pow_add, show nd_s y + 1 + k = nd_s y + (k + 1) by omega, Nat.pow_add 1000000 (nd_s y) (k + 1)]
      exact Nat.lt_trans hRv (Nat.mul_lt_mul_of_pos_right hyb (Nat.pow_pos (n := k + 1) (show 0 < 1000000 by decide)))
    have hWz : zv (fun j => (nd_d Rv j : Int)) k (nd_s y + 1) = ((Rv / 1000000 ^ k : Nat) : Int) := by rw [zv_nd, Nat.mod_eq_of_lt hWb]
    refine lv_iload hx hb dX1_takeOut_45 (lv_at hl 0 rfl) ?_
    refine bz_lt (tgt := 116) hx hb dX1_takeOut_47 (by decide) (by omega) (fun q9 => ?_) (fun q9 => ?_)
    · exact absurd q9 (Nat.not_lt_zero _)
    · refine lv_aload_n hx hb dX1_takeOut_50 rfl (lv_at hl 2 rfl) ?_
      refine lv_aload_n hx hb dX1_takeOut_51 rfl (lv_at hl 3 rfl) ?_
      refine lv_iload hx hb dX1_takeOut_52 (lv_at hl 0 rfl) ?_
      refine va_calll (va_runV (As := [.ref (ad o), .int (nI (k))]) (rest := []) ⟨hx, hb, hml, hown, hts⟩ (c_X1_guess l D cA tT A N ad _ (nw_ cA ad g w (nf (qd (x / y) (k + 1))) (nI 0)) (a := a) (o := o) (y := y) (q := k) (Rv := Rv) (L := L) (sv := nI (nd_s x)) ha1 ho1 hoB n1 n2 n3 (by omega) hL) (cwV 2 hts gX1_takeOut_X1_guess rfl rfl rfl (by decide +kernel) ⟨Nat.le_trans (Nat.le_of_ble_eq_true rfl) hRf, Nat.le_trans (Nat.le_of_ble_eq_true rfl) hRl⟩) (wd_preV (k := a) hP hK hD hT hS (by omega) nw_o rfl) rfl rfl hl.1 rfl (lv_room (Nat.le_of_ble_eq_true rfl)) dX1_takeOut_54 ⟨Nat.zero_le _, Nat.zero_le _⟩) hS id_2 id_1 (fun r_ u t H locs ht hvm hw hB hz1 hk1 hS => ?_)
      obtain ⟨hP, hD⟩ := wd_back ht hB
      clear ht hvm hB hz1 hk1
      obtain ⟨hr_, hu_⟩ := hw
      subst hr_
      rw [hu_] at hP hD
      clear hu_
      generalize hT9 : gs Rv y k L = Tv at hgs ⊢
      refine lv_lstore (lv' := [(5, .long (lN (Tv))), (4, .int (nI (k))), (3, .int (nI (M))), (0, .ref (ad a)), (1, .ref (ad o)), (2, .ref (ad w))]) hx hb dX1_takeOut_57 hl (by decide) rfl (fun ls hl => ?_)
      refine lv_aload_n hx hb dX1_takeOut_59 rfl (lv_at hl 3 rfl) ?_
      refine lv_aload_n hx hb dX1_takeOut_60 rfl (lv_at hl 4 rfl) ?_
      refine lv_lload hx hb dX1_takeOut_61 (lv_at hl 0 rfl) ?_
      refine lv_iload hx hb dX1_takeOut_63 (lv_at hl 1 rfl) ?_
      have hdm := Nat.div_add_mod (Rv / 1000000 ^ k) y
      have hml9 : y * (Rv / 1000000 ^ k / y) = Rv / 1000000 ^ k / y * y := Nat.mul_comm _ _
      have hr9 := Nat.mod_lt (Rv / 1000000 ^ k) hy00
      rw [zf_nd] at hP hD
      rw [lZ_nat Tv] at hl ⊢
      refine va_callv (va_runV (As := [.ref (ad o), .long (lZ ((Tv : Int))), .int (nI (k))]) (rest := []) ⟨hx, hb, hml, hown, hts⟩ (c_X1_takeAway l D cA tT A N ad _ (nw_ cA ad g w (nf (qd (x / y) (k + 1))) (nI 0)) (a := a) (o := o) (y := y) (q := k) (sv := nI (nd_s x)) (T := (Tv : Int)) (F := fun j => (nd_d Rv j : Int)) ha1 ho1 hoB n1 n2 n3 (by omega) (by omega) (by omega) (fun j _ => ⟨Int.natCast_nonneg _, by have := nd_lt Rv (k + j); omega⟩)) (cwV 3 hts gX1_takeOut_X1_takeAway rfl rfl rfl (by decide +kernel) ⟨Nat.le_trans (Nat.le_of_ble_eq_true rfl) hRf, Nat.le_trans (Nat.le_of_ble_eq_true rfl) hRl⟩) (wd_preV (k := a) hP hK hD hT hS (by omega) nw_o rfl) rfl rfl hl.1 rfl (lv_room (Nat.le_of_ble_eq_true rfl)) dX1_takeOut_65 ⟨Nat.zero_le _, Nat.zero_le _⟩) hS id_2 id_1 (fun u t H locs ht hvm hw hB hz1 hk1 hS => ?_)
      obtain ⟨hP, hD⟩ := wd_back ht hB
      clear ht hvm hB hz1 hk1
      obtain ⟨G, hu_, hG1, hG2, hG3⟩ := hw
      rw [hu_] at hP hD
      clear hu_
      rw [hWz] at hG1
      refine lv_aload_n hx hb dX1_takeOut_68 rfl (lv_at hl 3 rfl) ?_
      refine rg_1_limbs hx hb hts in1 hown hK hP a (by omega) nw_o (hts _ (by decide +kernel)) dX1_takeOut_69 ?_
      refine lv_iload hx hb dX1_takeOut_72 (lv_at hl 1 rfl) ?_
      refine lv_aload_n hx hb dX1_takeOut_74 rfl (lv_at hl 4 rfl) ?_
      refine rg_1_size hx hb hts in1 hown hK hP o (by omega) ((nw_ne (by omega) (by omega)).trans ((nw_ne (by omega) (by omega)).trans ho.1)) (hts _ (by decide +kernel)) dX1_takeOut_75 ?_
      refine lv_iadd hx hb dX1_takeOut_78 ?_
      refine tp_i (y := nI (k + (nd_s y))) (nI_add _ _) ?_
      refine rn_l hx hb hK hP (a + 1) (by omega) nw_l (by omega) (by decide) dX1_takeOut_79 ?_
      refine tp_l (y := lZ (G (k + (nd_s y)))) rfl ?_
      refine lv_lconst (v := lN (0)) hx hb dX1_takeOut_80 rfl ?_
      refine bL_ge (tgt := 101) hx hb dX1_takeOut_81 dX1_takeOut_82 (by decide) (fun q8 => ?_) (fun q8 => ?_)
      · have hTv : Tv = Rv / 1000000 ^ k / y := by
          rcases Nat.lt_or_ge (Rv / 1000000 ^ k / y) Tv with r | r
          · exfalso
            have e1 : Tv = Rv / 1000000 ^ k / y + 1 := by omega
            rw [e1, Int.natCast_add, Int.add_mul, ← Int.natCast_mul, ← hml9] at hG1
            have hneg := (zv_top hG2 hG1).2 (by omega) (by omega)
            rw [show lN 0 = lZ 0 from rfl] at q8
            have hlow := (zv_lo hG2)
            have hbd : -3 ≤ G (k + nd_s y) := by
              rw [zv] at hG1
              rcases Int.lt_or_le (G (k + nd_s y)) (-3) with v | v
              · have := Int.mul_le_mul_of_nonneg_right (show G (k + nd_s y) ≤ -4 by omega) (show (0 : Int) ≤ ((1000000 ^ nd_s y : Nat) : Int) by omega)
                omega
              · exact v
            rw [lZ_le (by decide) (by decide) (by omega) (by omega)] at q8
            omega
          · omega
        rw [hTv, ← Int.natCast_mul, ← hml9] at hG1
        have hfin := td_fin hy00 hRv hG2 hG3 (by omega)
        rw [hRm] at hfin
        rw [hfin] at hP hD
        rw [hTv, hQt, ← lZ_nat] at hl
        refine lv_aload_n hx hb dX1_takeOut_101 rfl (lv_at hl 5 rfl) ?_
        refine rg_1_limbs hx hb hts in1 hown hK hP w (by omega) ((nw_ne (by omega) (by omega)).trans nw_o) (hts _ (by decide +kernel)) dX1_takeOut_102 ?_
        refine lv_iload hx hb dX1_takeOut_105 (lv_at hl 1 rfl) ?_
        refine lv_lload hx hb dX1_takeOut_107 (lv_at hl 0 rfl) ?_
        refine rt_l hx hb hK hP hD hS (w + 1) (by omega) ((nw_ne (by omega) (by omega)).trans nw_l) (by omega) (by decide) dX1_takeOut_109 (fun H locs hP hD hS => ?_)
        rw [nw_sl2 m1 m2 m3] at hP hD
        refine lv_iinc (v := dn k) (lv' := [(4, .int (dn k)), (5, .long (lN (nd_d (x / y) k))), (3, .int (nI (M))), (0, .ref (ad a)), (1, .ref (ad o)), (2, .ref (ad w))]) hx hb dX1_takeOut_110 hl (k := 1) rfl (dn_dec k) (by decide) rfl (fun ls hl => ?_)
        refine lv_goto (tgt := 45) hx hb dX1_takeOut_113 (by decide) ?_
        rw [nf_up, qd_up] at hP hD
        exact ih H locs ls (by omega) hP hD hS (lv_sub hl [0, 2, 3, 4, 5] rfl)
      · have hTv : Tv = Rv / 1000000 ^ k / y + 1 := by
          rcases Nat.lt_or_ge (Rv / 1000000 ^ k / y) Tv with r | r
          · omega
          · exfalso
            have e1 : Tv = Rv / 1000000 ^ k / y := by omega
            rw [e1, ← Int.natCast_mul, ← hml9] at hG1
            have h0 := (zv_top hG2 hG1).1 (by omega) (by omega)
            rw [h0] at q8
            exact q8 (by decide)
        rw [hTv, Int.natCast_add, Int.add_mul, ← Int.natCast_mul, ← hml9] at hG1
        refine lv_aload_n hx hb dX1_takeOut_85 rfl (lv_at hl 3 rfl) ?_
        refine lv_aload_n hx hb dX1_takeOut_86 rfl (lv_at hl 4 rfl) ?_
        refine lv_ldc2 (v := (-1)) hx hb hown (hts _ (by decide +kernel)) dX1_takeOut_87 ?_
        refine lv_iload hx hb dX1_takeOut_90 (lv_at hl 1 rfl) ?_
        refine va_callv (va_runV (As := [.ref (ad o), .long ((-1)), .int (nI (k))]) (rest := []) ⟨hx, hb, hml, hown, hts⟩ (c_X1_takeAway l D cA tT A N ad _ (nw_ cA ad g w (nf (qd (x / y) (k + 1))) (nI 0)) (a := a) (o := o) (y := y) (q := k) (sv := nI (nd_s x)) (T := -1) (F := G) ha1 ho1 hoB n1 n2 n3 (by omega) (by decide) (by decide) hG2) (cwV 3 hts gX1_takeOut_X1_takeAway rfl rfl rfl (by decide +kernel) ⟨Nat.le_trans (Nat.le_of_ble_eq_true rfl) hRf, Nat.le_trans (Nat.le_of_ble_eq_true rfl) hRl⟩) (wd_preV (k := a) hP hK hD hT hS (by omega) nw_o rfl) rfl rfl hl.1 rfl (lv_room (Nat.le_of_ble_eq_true rfl)) dX1_takeOut_92 ⟨Nat.zero_le _, Nat.zero_le _⟩) hS id_2 id_1 (fun u t H locs ht hvm hw hB hz1 hk1 hS => ?_)
        obtain ⟨hP, hD⟩ := wd_back ht hB
        clear ht hvm hB hz1 hk1
        obtain ⟨G2, hu_, hH1, hH2, hH3⟩ := hw
        rw [hu_] at hP hD
        clear hu_
        rw [hG1] at hH1
        have hfin := td_fin hy00 hRv hH2 (fun j hj => (hH3 j hj).trans (hG3 j hj)) (by omega)
        rw [hRm] at hfin
        rw [hfin] at hP hD
        refine lv_lload hx hb dX1_takeOut_95 (lv_at hl 0 rfl) ?_
        refine lv_lconst (v := lN (1)) hx hb dX1_takeOut_97 rfl ?_
        refine lv_lsub hx hb dX1_takeOut_98 ?_
        refine tp_l (y := lN (nd_d (x / y) k)) (by rw [← hQt, lZ_nat, lZ_nat, lZ_sub, hTv]; congr 1; omega) ?_
        refine lv_lstore (lv' := [(5, .long (lN (nd_d (x / y) k))), (4, .int (nI (k))), (3, .int (nI (M))), (0, .ref (ad a)), (1, .ref (ad o)), (2, .ref (ad w))]) hx hb dX1_takeOut_99 hl (by decide) rfl (fun ls hl => ?_)
        refine lv_aload_n hx hb dX1_takeOut_101 rfl (lv_at hl 5 rfl) ?_
        refine rg_1_limbs hx hb hts in1 hown hK hP w (by omega) ((nw_ne (by omega) (by omega)).trans nw_o) (hts _ (by decide +kernel)) dX1_takeOut_102 ?_
        refine lv_iload hx hb dX1_takeOut_105 (lv_at hl 1 rfl) ?_
        refine lv_lload hx hb dX1_takeOut_107 (lv_at hl 0 rfl) ?_
        refine rt_l hx hb hK hP hD hS (w + 1) (by omega) ((nw_ne (by omega) (by omega)).trans nw_l) (by omega) (by decide) dX1_takeOut_109 (fun H locs hP hD hS => ?_)
        rw [nw_sl2 m1 m2 m3] at hP hD
        refine lv_iinc (v := dn k) (lv' := [(4, .int (dn k)), (5, .long (lN (nd_d (x / y) k))), (3, .int (nI (M))), (0, .ref (ad a)), (1, .ref (ad o)), (2, .ref (ad w))]) hx hb dX1_takeOut_110 hl (k := 1) rfl (dn_dec k) (by decide) rfl (fun ls hl => ?_)
        refine lv_goto (tgt := 45) hx hb dX1_takeOut_113 (by decide) ?_
        rw [nf_up, qd_up] at hP hD
        exact ih H locs ls (by omega) hP hD hS (lv_sub hl [0, 2, 3, 4, 5] rfl)
set_option maxHeartbeats 4000000 in
set_option maxRecDepth 100000 in
/-- takeOut: quotient and rest -/
theorem c_X1_takeOut (l : Launch) (D : va_G) (cA : Nat → ClassId) (tT : Nat) (A : Nat → Prop) (N : Nat) (ad : Nat → Nat) (sz : Nat) (g : Nat → va_E) {a o w x y z : Nat} (ha1 : a + 1 < N) (ho1 : o + 1 < N) (hw1 : w + 1 < N) (ho : is_N cA ad g o y) (n1 : a ≠ o) (n2 : a ≠ o + 1) (n3 : a + 1 ≠ o) (m1 : w ≠ a) (m2 : w ≠ a + 1) (m3 : w + 1 ≠ a) (p1 : w ≠ o) (p2 : w ≠ o + 1) (p3 : w + 1 ≠ o) (hx64 : nd_s x < 64) (hy0 : y ≠ 0) (ha : is_N cA ad g a x) (hw : is_N cA ad g w z) (hz64 : z < 1000000 ^ 64) (hy64 : nd_s y ≤ 64) : Met l yX1_takeOut wsX1_takeOut ({ frames := 2, cells := 0, slots := 0, locals := 54 }) (va_Pc [.ref (ad a), .ref (ad o), .ref (ad w)] (wd_B D cA tT A N ad sz g)) (va_Qv (fun (u : Nat → va_E) => u = nN cA ad (nN cA ad g w (x / y)) a (x % y)) (wd_E D cA A N ad) A) 0 0 A := by
  refine Met.ofW (cc := cX1_takeOut) (maxL := 7) (ret := none) (by decide) rfl ?_
  intro p e s m args below meth c s₁ B hml hv
  obtain ⟨rfl, hsz, hP, hK, hD, hT⟩ := hv
  have hx := B.exec
  have hb := B.bytes
  have hr := B.returns
  have hts := atoms_spec (ws := wsX1_takeOut) B.pre
  have hown : s.vm.findClass RX1 = some m.cls := findClass_of_methodNamed B.named
  have hlocks := B.notSynchronized
  subst hsz
  have hS : va_S A s.heap s.heap [] := va_S.rf
  have in1 : ∀ w ∈ wsX10, w ∈ wsX1_takeOut := by decide +kernel
  have hl := lv_entry ([.ref (ad a), .ref (ad o), .ref (ad w)]) (n := 7) (Nat.le_of_ble_eq_true rfl)
  rw [lg_entry_eq]
  generalize (lg_sl ([.ref (ad a), .ref (ad o), .ref (ad w)]) ++ List.replicate (7 - (lg_sl ([.ref (ad a), .ref (ad o), .ref (ad w)])).length) Slot.unset).toArray = ls at hl ⊢
  have hl : lv_has ls 7 [(0, .ref (ad a)), (1, .ref (ad o)), (2, .ref (ad w))] := hl
  have hw0 := hw
  refine lv_aload_n hx hb dX1_takeOut_0 rfl (lv_at hl 2 rfl) ?_
  refine va_callv (va_runV (As := []) (rest := []) ⟨hx, hb, hml, hown, hts⟩ (c_X1_clear l D cA tT A N ad _ _ (a := w) (x := z) hw1 hw0 hz64) (cwV 0 hts gX1_takeOut_X1_clear rfl rfl rfl (by decide +kernel) ⟨Nat.le_of_ble_eq_true rfl, Nat.le_of_ble_eq_true rfl⟩) (wd_preV (k := w) hP hK hD hT hS (by omega) hw0.1 rfl) rfl rfl hl.1 rfl (lv_room (Nat.le_of_ble_eq_true rfl)) dX1_takeOut_1 ⟨Nat.zero_le _, Nat.zero_le _⟩) hS id_2 id_1 (fun u t H locs ht hvm hw hB hz1 hk1 hS => ?_)
  obtain ⟨hP, hD⟩ := wd_back ht hB
  clear ht hvm hB hz1 hk1
  rw [hw] at hP hD
  clear hw
  rw [nN, nf_0, nd_s0] at hP hD
  have ha9 := is_nw (f := nf (fun _ => 0)) (sv := nI 0) m1 m2 m3 ha
  rw [← nw_self ha9] at hP hD
  refine lv_aload_n hx hb dX1_takeOut_4 rfl (lv_at hl 1 rfl) ?_
  refine rg_1_size hx hb hts in1 hown hK hP o (by omega) ((nw_ne (by omega) (by omega)).trans ((nw_ne (by omega) (by omega)).trans ho.1)) (hts _ (by decide +kernel)) dX1_takeOut_5 ?_
  refine bz_eq (tgt := 31) hx hb dX1_takeOut_8 (by decide) (by omega) (fun q1 => ?_) (fun q1 => ?_)
  · exact absurd (nd_s_z.mp q1) hy0
  · refine lv_aload_n hx hb dX1_takeOut_11 rfl (lv_at hl 0 rfl) ?_
    refine rg_1_size hx hb hts in1 hown hK hP a (by omega) nw_o (hts _ (by decide +kernel)) dX1_takeOut_12 ?_
    refine lv_aload_n hx hb dX1_takeOut_15 rfl (lv_at hl 1 rfl) ?_
    refine rg_1_size hx hb hts in1 hown hK hP o (by omega) ((nw_ne (by omega) (by omega)).trans ((nw_ne (by omega) (by omega)).trans ho.1)) (hts _ (by decide +kernel)) dX1_takeOut_16 ?_
    refine bi_lt (tgt := 31) hx hb dX1_takeOut_19 (by decide) (by omega) (by omega) (fun q2 => ?_) (fun q2 => ?_)
    · have hlt := nd_sl q2
      exact W.vret hx hb hr (fun t ht hW => ⟨⟨_, rfl, by rw [Nat.div_eq_of_lt hlt, Nat.mod_eq_of_lt hlt, nN, nN, nN, nf_0, nd_s0], wd_end hP hK hD ht hW⟩, hS.F ht⟩) hS.2.2 dX1_takeOut_31
    · refine lv_aload_n hx hb dX1_takeOut_22 rfl (lv_at hl 0 rfl) ?_
      refine rg_1_size hx hb hts in1 hown hK hP a (by omega) nw_o (hts _ (by decide +kernel)) dX1_takeOut_23 ?_
      refine lv_bipush (v := nI (64)) hx hb dX1_takeOut_26 (by decide) ?_
      refine bi_lt (tgt := 32) hx hb dX1_takeOut_28 (by decide) (by omega) (by omega) (fun q3 => ?_) (fun q3 => ?_)
      · have hxl := to_lt (x := x) (y := y) (by omega) hy0
        have hsy : 0 < nd_s y := Nat.pos_of_ne_zero q1
        have hQb : x / y < 1000000 ^ (nd_s x - nd_s y + 1) := by rw [Nat.div_lt_iff_lt_mul (Nat.pos_of_ne_zero hy0), Nat.mul_comm]; exact hxl
        have hW9 : nN cA ad (nw_ cA ad g w (nf (fun _ => 0)) (nI 0)) a x = nw_ cA ad (nw_ cA ad g w (nf (qd (x / y) (nd_s x - nd_s y + 1))) (nI 0)) a (nd_A (x % (y * 1000000 ^ (nd_s x - nd_s y + 1)))) (nI (nd_s x)) := by rw [Nat.mod_eq_of_lt hxl, qd_hi hQb]
        rw [hW9] at hP hD
        refine lv_aload_n hx hb dX1_takeOut_32 rfl (lv_at hl 0 rfl) ?_
        refine rg_1_size hx hb hts in1 hown hK hP a (by omega) nw_o (hts _ (by decide +kernel)) dX1_takeOut_33 ?_
        refine lv_aload_n hx hb dX1_takeOut_36 rfl (lv_at hl 1 rfl) ?_
        refine rg_1_size hx hb hts in1 hown hK hP o (by omega) ((nw_ne (by omega) (by omega)).trans ((nw_ne (by omega) (by omega)).trans ho.1)) (hts _ (by decide +kernel)) dX1_takeOut_37 ?_
        refine lv_isub hx hb dX1_takeOut_40 ?_
        refine tp_i (y := nI ((nd_s x) - (nd_s y))) (pk_sub (by omega)) ?_
        refine lv_istore_n (lv' := [(3, .int (nI ((nd_s x) - (nd_s y)))), (0, .ref (ad a)), (1, .ref (ad o)), (2, .ref (ad w))]) hx hb dX1_takeOut_41 rfl hl (by decide) rfl (fun ls hl => ?_)
        refine lv_iload_n hx hb dX1_takeOut_42 rfl (lv_at hl 0 rfl) ?_
        refine lv_istore (lv' := [(4, .int (nI ((nd_s x) - (nd_s y)))), (3, .int (nI ((nd_s x) - (nd_s y)))), (0, .ref (ad a)), (1, .ref (ad o)), (2, .ref (ad w))]) hx hb dX1_takeOut_43 hl (by decide) rfl (fun ls hl => ?_)
        refine lp_X1_takeOut (M := nd_s x - nd_s y) ⟨hx, hb, hml, hown, hts⟩ hK hT (Nat.le_of_ble_eq_true rfl) (Nat.le_of_ble_eq_true rfl) ha1 ho1 hw1 ho n1 n2 n3 m1 m2 m3 p1 p2 p3 hx64 hy0 (fun H locs ls hP hD hS hl => ?_) (nd_s x - nd_s y + 1) _ _ ls (by omega) hP hD hS (lv_sub hl [0, 1, 2, 3, 4] rfl)
        rw [qd_0, Nat.pow_zero, Nat.mul_one] at hP hD
        refine lv_aload_n hx hb dX1_takeOut_116 rfl (lv_at hl 3 rfl) ?_
        refine lv_iload_n hx hb dX1_takeOut_117 rfl (lv_at hl 0 rfl) ?_
        refine lv_iconst (v := nI (1)) hx hb dX1_takeOut_118 (by decide) ?_
        refine lv_iadd hx hb dX1_takeOut_119 ?_
        refine tp_i (y := nI ((nd_s x - nd_s y) + 1)) (nI_add _ _) ?_
        refine rp_1_size hx hb hts in1 hown hK hP hD hS w (by omega) ((nw_ne (by omega) (by omega)).trans nw_o) (hts _ (by decide +kernel)) rfl rfl dX1_takeOut_120 (fun H locs hP hD hS => ?_)
        rw [nw_so2 m1 m2 m3] at hP hD
        refine lv_aload_n hx hb dX1_takeOut_123 rfl (lv_at hl 3 rfl) ?_
        rw [nw_comm m1 m2 m3] at hP hD
        refine va_callv (va_runV (As := []) (rest := []) ⟨hx, hb, hml, hown, hts⟩ (c_X1_shrink l D cA tT A N ad _ (nw_ cA ad g a (nd_A (x % y)) (nI (nd_s x))) (a := w) (V := x / y) (k := nd_s x - nd_s y + 1) hw1 (by omega) hQb) (cwV 0 hts gX1_takeOut_X1_shrink rfl rfl rfl (by decide +kernel) ⟨Nat.le_of_ble_eq_true rfl, Nat.le_of_ble_eq_true rfl⟩) (wd_preV (k := w) hP hK hD hT hS (by omega) nw_o rfl) rfl rfl hl.1 rfl (lv_room (Nat.le_of_ble_eq_true rfl)) dX1_takeOut_124 ⟨Nat.zero_le _, Nat.zero_le _⟩) hS id_2 id_1 (fun u t H locs ht hvm hw hB hz1 hk1 hS => ?_)
        obtain ⟨hP, hD⟩ := wd_back ht hB
        clear ht hvm hB hz1 hk1
        rw [hw] at hP hD
        clear hw
        rw [nN, ← nw_comm m1 m2 m3] at hP hD
        refine lv_aload_n hx hb dX1_takeOut_127 rfl (lv_at hl 1 rfl) ?_
        refine va_callv (va_runV (As := []) (rest := []) ⟨hx, hb, hml, hown, hts⟩ (c_X1_shrink l D cA tT A N ad _ (nN cA ad g w (x / y)) (a := a) (V := x % y) (k := nd_s x) ha1 (by omega) (Nat.lt_of_le_of_lt (Nat.mod_le x y) (nd_s_lt x))) (cwV 0 hts gX1_takeOut_X1_shrink rfl rfl rfl (by decide +kernel) ⟨Nat.le_of_ble_eq_true rfl, Nat.le_of_ble_eq_true rfl⟩) (wd_preV (k := a) hP hK hD hT hS (by omega) nw_o rfl) rfl rfl hl.1 rfl (lv_room (Nat.le_of_ble_eq_true rfl)) dX1_takeOut_128 ⟨Nat.zero_le _, Nat.zero_le _⟩) hS id_2 id_1 (fun u t H locs ht hvm hw hB hz1 hk1 hS => ?_)
        obtain ⟨hP, hD⟩ := wd_back ht hB
        clear ht hvm hB hz1 hk1
        rw [hw] at hP hD
        clear hw
        exact W.vret hx hb hr (fun t ht hW => ⟨⟨_, rfl, rfl, wd_end hP hK hD ht hW⟩, hS.F ht⟩) hS.2.2 dX1_takeOut_131
      · exact absurd hx64 q3
end
