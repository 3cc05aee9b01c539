def RX0 : String := "StoneQuarry$1"
def TX0 : u_T := fun k => match k with
  | _ => ("", "", "", false)
def tyX0 : Nat → FieldType := fun k => match k with
  | _ => .int
abbrev wsX00 : List Cond := u_ws RX0 TX0 0
theorem nmX0 : ∀ a, a < 0 → ∀ b, b < 0 → a ≠ b → (TX0 a).2.1 ≠ (TX0 b).2.1 := by decide +kernel
theorem tyX0_ok : ∀ k, k < 0 → parseFieldDescriptor (TX0 k).2.2.1 = some (tyX0 k) := by decide +kernel
def RX1 : String := "StoneQuarry$Blast"
def TX1 : u_T := fun k => match k with
  | 0 => ("StoneQuarry$Blast", "exploded", "[Z", true)
  | 1 => ("StoneQuarry$Blast", "opened", "[Z", true)
  | 2 => ("StoneQuarry$Blast", "order", "[I", true)
  | 3 => ("StoneQuarry$Blast", "explodedCount", "I", false)
  | _ => ("StoneQuarry$Blast", "openedCount", "I", false)
def tyX1 : Nat → FieldType := fun k => match k with
  | 0 => .array .boolean
  | 1 => .array .boolean
  | 2 => .array .int
  | 3 => .int
  | _ => .int
abbrev wsX10 : List Cond := u_ws RX1 TX1 5
theorem nmX1 : ∀ a, a < 5 → ∀ b, b < 5 → a ≠ b → (TX1 a).2.1 ≠ (TX1 b).2.1 := by decide +kernel
theorem tyX1_ok : ∀ k, k < 5 → parseFieldDescriptor (TX1 k).2.2.1 = some (tyX1 k) := by decide +kernel
abbrev cX1_init : ByteArray := prog_3_method_1_code
def yX1_init : MethodName := ⟨RX1, "<init>", "()V"⟩
abbrev cX1_run : ByteArray := prog_3_method_2_code
def yX1_run : MethodName := ⟨RX1, "run", "(LStoneQuarry$QuarryState;I)V"⟩
abbrev cX1_countByRounds : ByteArray := prog_3_method_3_code
def yX1_countByRounds : MethodName := ⟨RX1, "countByRounds", "(LStoneQuarry$QuarryState;I)I"⟩
abbrev cX1_explodes : ByteArray := prog_3_method_4_code
def yX1_explodes : MethodName := ⟨RX1, "explodes", "(I)Z"⟩
abbrev cX1_opens : ByteArray := prog_3_method_5_code
def yX1_opens : MethodName := ⟨RX1, "opens", "(I)Z"⟩
abbrev cX1_reset : ByteArray := prog_3_method_6_code
def yX1_reset : MethodName := ⟨RX1, "reset", "()V"⟩
abbrev cX1_setOff : ByteArray := prog_3_method_7_code
def yX1_setOff : MethodName := ⟨RX1, "setOff", "(I)V"⟩
abbrev cX1_openAround : ByteArray := prog_3_method_8_code
def yX1_openAround : MethodName := ⟨RX1, "openAround", "(LStoneQuarry$QuarryState;I)V"⟩
abbrev cX1_setOffOpened : ByteArray := prog_3_method_9_code
def yX1_setOffOpened : MethodName := ⟨RX1, "setOffOpened", "(LStoneQuarry$QuarryState;)V"⟩
abbrev cX1_askAll : ByteArray := prog_3_method_10_code
def yX1_askAll : MethodName := ⟨RX1, "askAll", "(LStoneQuarry$QuarryState;)Z"⟩
abbrev cX1_setOffReached : ByteArray := prog_3_method_11_code
def yX1_setOffReached : MethodName := ⟨RX1, "setOffReached", "(LStoneQuarry$QuarryState;I)V"⟩
def RX2 : String := "StoneQuarry$Blocks"
def TX2 : u_T := fun k => match k with
  | _ => ("StoneQuarry$Blocks", "heights", "[I", true)
def tyX2 : Nat → FieldType := fun k => match k with
  | _ => .array .int
abbrev wsX20 : List Cond := u_ws RX2 TX2 1
theorem nmX2 : ∀ a, a < 1 → ∀ b, b < 1 → a ≠ b → (TX2 a).2.1 ≠ (TX2 b).2.1 := by decide +kernel
theorem tyX2_ok : ∀ k, k < 1 → parseFieldDescriptor (TX2 k).2.2.1 = some (tyX2 k) := by decide +kernel
abbrev cX2_init : ByteArray := prog_4_method_1_code
def yX2_init : MethodName := ⟨RX2, "<init>", "()V"⟩
abbrev cX2_sizeByRectangles : ByteArray := prog_4_method_2_code
def yX2_sizeByRectangles : MethodName := ⟨RX2, "sizeByRectangles", "(LStoneQuarry$QuarryState;)I"⟩
abbrev cX2_largestFromCorner : ByteArray := prog_4_method_3_code
def yX2_largestFromCorner : MethodName := ⟨RX2, "largestFromCorner", "(LStoneQuarry$QuarryState;II)I"⟩
abbrev cX2_allOpen : ByteArray := prog_4_method_4_code
def yX2_allOpen : MethodName := ⟨RX2, "allOpen", "(LStoneQuarry$QuarryState;IIII)Z"⟩
abbrev cX2_sizeByHeights : ByteArray := prog_4_method_5_code
def yX2_sizeByHeights : MethodName := ⟨RX2, "sizeByHeights", "(LStoneQuarry$QuarryState;)I"⟩
abbrev cX2_largestUnderHeights : ByteArray := prog_4_method_6_code
def yX2_largestUnderHeights : MethodName := ⟨RX2, "largestUnderHeights", "()I"⟩
def RX3 : String := "StoneQuarry$Command"
def TX3 : u_T := fun k => match k with
  | _ => ("", "", "", false)
def tyX3 : Nat → FieldType := fun k => match k with
  | _ => .int
abbrev wsX30 : List Cond := u_ws RX3 TX3 0
theorem nmX3 : ∀ a, a < 0 → ∀ b, b < 0 → a ≠ b → (TX3 a).2.1 ≠ (TX3 b).2.1 := by decide +kernel
theorem tyX3_ok : ∀ k, k < 0 → parseFieldDescriptor (TX3 k).2.2.1 = some (tyX3 k) := by decide +kernel
def RX4 : String := "StoneQuarry$CommandText"
def TX4 : u_T := fun k => match k with
  | 0 => ("StoneQuarry$CommandText", "signs", "[C", true)
  | 1 => ("StoneQuarry$CommandText", "commands", "[LStoneQuarry$Command;", true)
  | 2 => ("StoneQuarry$CommandText", "parameters", "[I", true)
  | 3 => ("StoneQuarry$CommandText", "length", "I", false)
  | 4 => ("StoneQuarry$CommandText", "position", "I", false)
  | _ => ("StoneQuarry$CommandText", "commandCount", "I", false)
def tyX4 : Nat → FieldType := fun k => match k with
  | 0 => .array .char
  | 1 => .array (.object "StoneQuarry$Command")
  | 2 => .array .int
  | 3 => .int
  | 4 => .int
  | _ => .int
abbrev wsX40 : List Cond := u_ws RX4 TX4 6
theorem nmX4 : ∀ a, a < 6 → ∀ b, b < 6 → a ≠ b → (TX4 a).2.1 ≠ (TX4 b).2.1 := by decide +kernel
theorem tyX4_ok : ∀ k, k < 6 → parseFieldDescriptor (TX4 k).2.2.1 = some (tyX4 k) := by decide +kernel
abbrev cX4_init : ByteArray := prog_6_method_1_code
def yX4_init : MethodName := ⟨RX4, "<init>", "()V"⟩
abbrev cX4_isFull : ByteArray := prog_6_method_2_code
def yX4_isFull : MethodName := ⟨RX4, "isFull", "()Z"⟩
abbrev cX4_append : ByteArray := prog_6_method_3_code
def yX4_append : MethodName := ⟨RX4, "append", "(C)I"⟩
abbrev cX4_empty : ByteArray := prog_6_method_4_code
def yX4_empty : MethodName := ⟨RX4, "empty", "()V"⟩
abbrev cX4_commandAt : ByteArray := prog_6_method_5_code
def yX4_commandAt : MethodName := ⟨RX4, "commandAt", "(I)LStoneQuarry$Command;"⟩
abbrev cX4_parameterAt : ByteArray := prog_6_method_6_code
def yX4_parameterAt : MethodName := ⟨RX4, "parameterAt", "(II)I"⟩
abbrev cX4_parse : ByteArray := prog_6_method_7_code
def yX4_parse : MethodName := ⟨RX4, "parse", "()I"⟩
abbrev cX4_readCommand : ByteArray := prog_6_method_8_code
def yX4_readCommand : MethodName := ⟨RX4, "readCommand", "(I)Z"⟩
abbrev cX4_readWord : ByteArray := prog_6_method_9_code
def yX4_readWord : MethodName := ⟨RX4, "readWord", "()LStoneQuarry$Command;"⟩
abbrev cX4_commonStart : ByteArray := prog_6_method_10_code
def yX4_commonStart : MethodName := ⟨RX4, "commonStart", "(Ljava/lang/String;)I"⟩
abbrev cX4_readNumber : ByteArray := prog_6_method_11_code
def yX4_readNumber : MethodName := ⟨RX4, "readNumber", "(I)I"⟩
abbrev cX4_nextDigit : ByteArray := prog_6_method_12_code
def yX4_nextDigit : MethodName := ⟨RX4, "nextDigit", "()I"⟩
abbrev cX4_nextIs : ByteArray := prog_6_method_13_code
def yX4_nextIs : MethodName := ⟨RX4, "nextIs", "(C)Z"⟩
abbrev cX4_signIs : ByteArray := prog_6_method_14_code
def yX4_signIs : MethodName := ⟨RX4, "signIs", "(IC)Z"⟩
def RX5 : String := "StoneQuarry$Cuts"
def TX5 : u_T := fun k => match k with
  | 0 => ("StoneQuarry$Cuts", "coins", "[I", true)
  | _ => ("StoneQuarry$Cuts", "pieces", "[I", true)
def tyX5 : Nat → FieldType := fun k => match k with
  | 0 => .array .int
  | _ => .array .int
abbrev wsX50 : List Cond := u_ws RX5 TX5 2
theorem nmX5 : ∀ a, a < 2 → ∀ b, b < 2 → a ≠ b → (TX5 a).2.1 ≠ (TX5 b).2.1 := by decide +kernel
theorem tyX5_ok : ∀ k, k < 2 → parseFieldDescriptor (TX5 k).2.2.1 = some (tyX5 k) := by decide +kernel
abbrev cX5_init : ByteArray := prog_7_method_1_code
def yX5_init : MethodName := ⟨RX5, "<init>", "()V"⟩
abbrev cX5_coinsByTable : ByteArray := prog_7_method_2_code
def yX5_coinsByTable : MethodName := ⟨RX5, "coinsByTable", "(LStoneQuarry$QuarryState;I)I"⟩
abbrev cX5_piecesByTable : ByteArray := prog_7_method_3_code
def yX5_piecesByTable : MethodName := ⟨RX5, "piecesByTable", "(LStoneQuarry$QuarryState;I)I"⟩
abbrev cX5_fillTable : ByteArray := prog_7_method_4_code
def yX5_fillTable : MethodName := ⟨RX5, "fillTable", "(LStoneQuarry$QuarryState;)V"⟩
abbrev cX5_coinsByTrial : ByteArray := prog_7_method_5_code
def yX5_coinsByTrial : MethodName := ⟨RX5, "coinsByTrial", "(LStoneQuarry$QuarryState;I)I"⟩
abbrev cX5_tryPieces : ByteArray := prog_7_method_6_code
def yX5_tryPieces : MethodName := ⟨RX5, "tryPieces", "(LStoneQuarry$QuarryState;III)I"⟩
def RX6 : String := "StoneQuarry$History"
def TX6 : u_T := fun k => match k with
  | 0 => ("StoneQuarry$History", "ring", "[LStoneQuarry$QuarryState;", true)
  | 1 => ("StoneQuarry$History", "next", "I", false)
  | _ => ("StoneQuarry$History", "remembered", "I", false)
def tyX6 : Nat → FieldType := fun k => match k with
  | 0 => .array (.object "StoneQuarry$QuarryState")
  | 1 => .int
  | _ => .int
abbrev wsX60 : List Cond := u_ws RX6 TX6 3
theorem nmX6 : ∀ a, a < 3 → ∀ b, b < 3 → a ≠ b → (TX6 a).2.1 ≠ (TX6 b).2.1 := by decide +kernel
theorem tyX6_ok : ∀ k, k < 3 → parseFieldDescriptor (TX6 k).2.2.1 = some (tyX6 k) := by decide +kernel
abbrev cX6_init : ByteArray := prog_8_method_1_code
def yX6_init : MethodName := ⟨RX6, "<init>", "()V"⟩
abbrev cX6_remember : ByteArray := prog_8_method_2_code
def yX6_remember : MethodName := ⟨RX6, "remember", "(LStoneQuarry$QuarryState;)V"⟩
abbrev cX6_takeBack : ByteArray := prog_8_method_3_code
def yX6_takeBack : MethodName := ⟨RX6, "takeBack", "(LStoneQuarry$QuarryState;)I"⟩
abbrev cX6_forget : ByteArray := prog_8_method_4_code
def yX6_forget : MethodName := ⟨RX6, "forget", "()V"⟩
abbrev cX6_placeAt : ByteArray := prog_8_method_5_code
def yX6_placeAt : MethodName := ⟨RX6, "placeAt", "(I)LStoneQuarry$QuarryState;"⟩
def RX7 : String := "StoneQuarry$Line"
def TX7 : u_T := fun k => match k with
  | 0 => ("StoneQuarry$Line", "signs", "[C", true)
  | _ => ("StoneQuarry$Line", "length", "I", false)
def tyX7 : Nat → FieldType := fun k => match k with
  | 0 => .array .char
  | _ => .int
abbrev wsX70 : List Cond := u_ws RX7 TX7 2
theorem nmX7 : ∀ a, a < 2 → ∀ b, b < 2 → a ≠ b → (TX7 a).2.1 ≠ (TX7 b).2.1 := by decide +kernel
theorem tyX7_ok : ∀ k, k < 2 → parseFieldDescriptor (TX7 k).2.2.1 = some (tyX7 k) := by decide +kernel
abbrev cX7_init : ByteArray := prog_9_method_1_code
def yX7_init : MethodName := ⟨RX7, "<init>", "()V"⟩
abbrev cX7_showRow : ByteArray := prog_9_method_2_code
def yX7_showRow : MethodName := ⟨RX7, "showRow", "(LStoneQuarry$QuarryState;I)I"⟩
abbrev cX7_showCharge : ByteArray := prog_9_method_3_code
def yX7_showCharge : MethodName := ⟨RX7, "showCharge", "(LStoneQuarry$QuarryState;I)I"⟩
abbrev cX7_hasSign : ByteArray := prog_9_method_4_code
def yX7_hasSign : MethodName := ⟨RX7, "hasSign", "(I)Z"⟩
abbrev cX7_signAt : ByteArray := prog_9_method_5_code
def yX7_signAt : MethodName := ⟨RX7, "signAt", "(I)C"⟩
abbrev cX7_put : ByteArray := prog_9_method_6_code
def yX7_put : MethodName := ⟨RX7, "put", "(C)V"⟩
abbrev cX7_signOf : ByteArray := prog_9_method_7_code
def yX7_signOf : MethodName := ⟨RX7, "signOf", "(LStoneQuarry$QuarryState;I)C"⟩
abbrev cX7_digit : ByteArray := prog_9_method_8_code
def yX7_digit : MethodName := ⟨RX7, "digit", "(I)C"⟩
def RX8 : String := "StoneQuarry$QuarryState"
def TX8 : u_T := fun k => match k with
  | 0 => ("StoneQuarry$QuarryState", "hardness", "[I", true)
  | 1 => ("StoneQuarry$QuarryState", "chargeCells", "[I", true)
  | 2 => ("StoneQuarry$QuarryState", "strengths", "[I", true)
  | 3 => ("StoneQuarry$QuarryState", "prices", "[I", true)
  | 4 => ("StoneQuarry$QuarryState", "charges", "I", false)
  | 5 => ("StoneQuarry$QuarryState", "stock", "I", false)
  | 6 => ("StoneQuarry$QuarryState", "quarriedStone", "I", false)
  | 7 => ("StoneQuarry$QuarryState", "soldStone", "I", false)
  | _ => ("StoneQuarry$QuarryState", "purse", "J", false)
def tyX8 : Nat → FieldType := fun k => match k with
  | 0 => .array .int
  | 1 => .array .int
  | 2 => .array .int
  | 3 => .array .int
  | 4 => .int
  | 5 => .int
  | 6 => .int
  | 7 => .int
  | _ => .long
abbrev wsX80 : List Cond := u_ws RX8 TX8 9
theorem nmX8 : ∀ a, a < 9 → ∀ b, b < 9 → a ≠ b → (TX8 a).2.1 ≠ (TX8 b).2.1 := by decide +kernel
theorem tyX8_ok : ∀ k, k < 9 → parseFieldDescriptor (TX8 k).2.2.1 = some (tyX8 k) := by decide +kernel
abbrev cX8_init : ByteArray := prog_10_method_1_code
def yX8_init : MethodName := ⟨RX8, "<init>", "()V"⟩
abbrev cX8_copyFrom : ByteArray := prog_10_method_2_code
def yX8_copyFrom : MethodName := ⟨RX8, "copyFrom", "(LStoneQuarry$QuarryState;)V"⟩
abbrev cX8_hardnessAt : ByteArray := prog_10_method_3_code
def yX8_hardnessAt : MethodName := ⟨RX8, "hardnessAt", "(I)I"⟩
abbrev cX8_openAt : ByteArray := prog_10_method_4_code
def yX8_openAt : MethodName := ⟨RX8, "openAt", "(I)Z"⟩
abbrev cX8_breaksAt : ByteArray := prog_10_method_5_code
def yX8_breaksAt : MethodName := ⟨RX8, "breaksAt", "(II)Z"⟩
abbrev cX8_countOpen : ByteArray := prog_10_method_6_code
def yX8_countOpen : MethodName := ⟨RX8, "countOpen", "()I"⟩
abbrev cX8_sumOfHardness : ByteArray := prog_10_method_7_code
def yX8_sumOfHardness : MethodName := ⟨RX8, "sumOfHardness", "()I"⟩
abbrev cX8_hasCharge : ByteArray := prog_10_method_8_code
def yX8_hasCharge : MethodName := ⟨RX8, "hasCharge", "(I)Z"⟩
abbrev cX8_cellOf : ByteArray := prog_10_method_9_code
def yX8_cellOf : MethodName := ⟨RX8, "cellOf", "(I)I"⟩
abbrev cX8_strengthOf : ByteArray := prog_10_method_10_code
def yX8_strengthOf : MethodName := ⟨RX8, "strengthOf", "(I)I"⟩
abbrev cX8_chargedAt : ByteArray := prog_10_method_11_code
def yX8_chargedAt : MethodName := ⟨RX8, "chargedAt", "(I)Z"⟩
abbrev cX8_priceAt : ByteArray := prog_10_method_12_code
def yX8_priceAt : MethodName := ⟨RX8, "priceAt", "(I)I"⟩
abbrev cX8_faultOfHardness : ByteArray := prog_10_method_13_code
def yX8_faultOfHardness : MethodName := ⟨RX8, "faultOfHardness", "(III)I"⟩
abbrev cX8_faultOfDigging : ByteArray := prog_10_method_14_code
def yX8_faultOfDigging : MethodName := ⟨RX8, "faultOfDigging", "(II)I"⟩
abbrev cX8_canBeReached : ByteArray := prog_10_method_15_code
def yX8_canBeReached : MethodName := ⟨RX8, "canBeReached", "(I)Z"⟩
abbrev cX8_faultOfLaying : ByteArray := prog_10_method_16_code
def yX8_faultOfLaying : MethodName := ⟨RX8, "faultOfLaying", "(III)I"⟩
abbrev cX8_faultOfPrice : ByteArray := prog_10_method_17_code
def yX8_faultOfPrice : MethodName := ⟨RX8, "faultOfPrice", "(II)I"⟩
abbrev cX8_faultOfSelling : ByteArray := prog_10_method_18_code
def yX8_faultOfSelling : MethodName := ⟨RX8, "faultOfSelling", "(I)I"⟩
abbrev cX8_harden : ByteArray := prog_10_method_19_code
def yX8_harden : MethodName := ⟨RX8, "harden", "(II)I"⟩
abbrev cX8_makeOpen : ByteArray := prog_10_method_20_code
def yX8_makeOpen : MethodName := ⟨RX8, "makeOpen", "(I)V"⟩
abbrev cX8_digOut : ByteArray := prog_10_method_21_code
def yX8_digOut : MethodName := ⟨RX8, "digOut", "(I)J"⟩
abbrev cX8_lay : ByteArray := prog_10_method_22_code
def yX8_lay : MethodName := ⟨RX8, "lay", "(II)I"⟩
abbrev cX8_takeAway : ByteArray := prog_10_method_23_code
def yX8_takeAway : MethodName := ⟨RX8, "takeAway", "(I)I"⟩
abbrev cX8_applyBlast : ByteArray := prog_10_method_24_code
def yX8_applyBlast : MethodName := ⟨RX8, "applyBlast", "(LStoneQuarry$Blast;)V"⟩
abbrev cX8_renumber : ByteArray := prog_10_method_25_code
def yX8_renumber : MethodName := ⟨RX8, "renumber", "(II)V"⟩
abbrev cX8_putPrice : ByteArray := prog_10_method_26_code
def yX8_putPrice : MethodName := ⟨RX8, "putPrice", "(II)I"⟩
abbrev cX8_handOver : ByteArray := prog_10_method_27_code
def yX8_handOver : MethodName := ⟨RX8, "handOver", "(II)V"⟩
def RX9 : String := "StoneQuarry$Slabs"
def TX9 : u_T := fun k => match k with
  | 0 => ("StoneQuarry$Slabs", "partner", "[I", true)
  | 1 => ("StoneQuarry$Slabs", "asked", "[Z", true)
  | 2 => ("StoneQuarry$Slabs", "most", "[I", true)
  | _ => ("StoneQuarry$Slabs", "mostNext", "[I", true)
def tyX9 : Nat → FieldType := fun k => match k with
  | 0 => .array .int
  | 1 => .array .boolean
  | 2 => .array .int
  | _ => .array .int
abbrev wsX90 : List Cond := u_ws RX9 TX9 4
theorem nmX9 : ∀ a, a < 4 → ∀ b, b < 4 → a ≠ b → (TX9 a).2.1 ≠ (TX9 b).2.1 := by decide +kernel
theorem tyX9_ok : ∀ k, k < 4 → parseFieldDescriptor (TX9 k).2.2.1 = some (tyX9 k) := by decide +kernel
abbrev cX9_init : ByteArray := prog_11_method_1_code
def yX9_init : MethodName := ⟨RX9, "<init>", "()V"⟩
abbrev cX9_countByMoving : ByteArray := prog_11_method_2_code
def yX9_countByMoving : MethodName := ⟨RX9, "countByMoving", "(LStoneQuarry$QuarryState;)I"⟩
abbrev cX9_makeRoom : ByteArray := prog_11_method_3_code
def yX9_makeRoom : MethodName := ⟨RX9, "makeRoom", "(LStoneQuarry$Slabs;LStoneQuarry$QuarryState;II)Z"⟩
abbrev cX9_countByCells : ByteArray := prog_11_method_4_code
def yX9_countByCells : MethodName := ⟨RX9, "countByCells", "(LStoneQuarry$QuarryState;)I"⟩
abbrev cX9_passCell : ByteArray := prog_11_method_5_code
def yX9_passCell : MethodName := ⟨RX9, "passCell", "(LStoneQuarry$QuarryState;II)V"⟩
abbrev cX9_reach : ByteArray := prog_11_method_6_code
def yX9_reach : MethodName := ⟨RX9, "reach", "(II)V"⟩
def RX10 : String := "StoneQuarry$Tunnels"
def TX10 : u_T := fun k => match k with
  | 0 => ("StoneQuarry$Tunnels", "cost", "[I", true)
  | _ => ("StoneQuarry$Tunnels", "settled", "[Z", true)
def tyX10 : Nat → FieldType := fun k => match k with
  | 0 => .array .int
  | _ => .array .boolean
abbrev wsX100 : List Cond := u_ws RX10 TX10 2
theorem nmX10 : ∀ a, a < 2 → ∀ b, b < 2 → a ≠ b → (TX10 a).2.1 ≠ (TX10 b).2.1 := by decide +kernel
theorem tyX10_ok : ∀ k, k < 2 → parseFieldDescriptor (TX10 k).2.2.1 = some (tyX10 k) := by decide +kernel
abbrev cX10_init : ByteArray := prog_12_method_1_code
def yX10_init : MethodName := ⟨RX10, "<init>", "()V"⟩
abbrev cX10_costByNearest : ByteArray := prog_12_method_2_code
def yX10_costByNearest : MethodName := ⟨RX10, "costByNearest", "(LStoneQuarry$QuarryState;)I"⟩
abbrev cX10_costByRounds : ByteArray := prog_12_method_3_code
def yX10_costByRounds : MethodName := ⟨RX10, "costByRounds", "(LStoneQuarry$QuarryState;)I"⟩
abbrev cX10_start : ByteArray := prog_12_method_4_code
def yX10_start : MethodName := ⟨RX10, "start", "(LStoneQuarry$QuarryState;)V"⟩
abbrev cX10_nearest : ByteArray := prog_12_method_5_code
def yX10_nearest : MethodName := ⟨RX10, "nearest", "()I"⟩
abbrev cX10_goOn : ByteArray := prog_12_method_6_code
def yX10_goOn : MethodName := ⟨RX10, "goOn", "(LStoneQuarry$QuarryState;I)Z"⟩
abbrev cX10_leastAtEnd : ByteArray := prog_12_method_7_code
def yX10_leastAtEnd : MethodName := ⟨RX10, "leastAtEnd", "()I"⟩
def RX11 : String := "StoneQuarry$Veins"
def TX11 : u_T := fun k => match k with
  | 0 => ("StoneQuarry$Veins", "found", "[Z", true)
  | 1 => ("StoneQuarry$Veins", "order", "[I", true)
  | _ => ("StoneQuarry$Veins", "foundCount", "I", false)
def tyX11 : Nat → FieldType := fun k => match k with
  | 0 => .array .boolean
  | 1 => .array .int
  | _ => .int
abbrev wsX110 : List Cond := u_ws RX11 TX11 3
theorem nmX11 : ∀ a, a < 3 → ∀ b, b < 3 → a ≠ b → (TX11 a).2.1 ≠ (TX11 b).2.1 := by decide +kernel
theorem tyX11_ok : ∀ k, k < 3 → parseFieldDescriptor (TX11 k).2.2.1 = some (tyX11 k) := by decide +kernel
abbrev cX11_init : ByteArray := prog_13_method_1_code
def yX11_init : MethodName := ⟨RX11, "<init>", "()V"⟩
abbrev cX11_sizeFrom : ByteArray := prog_13_method_2_code
def yX11_sizeFrom : MethodName := ⟨RX11, "sizeFrom", "(LStoneQuarry$QuarryState;I)I"⟩
abbrev cX11_countOf : ByteArray := prog_13_method_3_code
def yX11_countOf : MethodName := ⟨RX11, "countOf", "(LStoneQuarry$QuarryState;I)I"⟩
abbrev cX11_follow : ByteArray := prog_13_method_4_code
def yX11_follow : MethodName := ⟨RX11, "follow", "(LStoneQuarry$QuarryState;I)I"⟩
abbrev cX11_addEqualNeighbours : ByteArray := prog_13_method_5_code
def yX11_addEqualNeighbours : MethodName := ⟨RX11, "addEqualNeighbours", "(LStoneQuarry$QuarryState;I)V"⟩
abbrev cX11_add : ByteArray := prog_13_method_6_code
def yX11_add : MethodName := ⟨RX11, "add", "(I)V"⟩
def RX12 : String := "StoneQuarry"
def TX12 : u_T := fun k => match k with
  | 0 => ("StoneQuarry", "state", "LStoneQuarry$QuarryState;", true)
  | 1 => ("StoneQuarry", "before", "LStoneQuarry$QuarryState;", true)
  | 2 => ("StoneQuarry", "snapshot", "LStoneQuarry$QuarryState;", true)
  | 3 => ("StoneQuarry", "history", "LStoneQuarry$History;", true)
  | 4 => ("StoneQuarry", "veins", "LStoneQuarry$Veins;", true)
  | 5 => ("StoneQuarry", "blast", "LStoneQuarry$Blast;", true)
  | 6 => ("StoneQuarry", "tunnels", "LStoneQuarry$Tunnels;", true)
  | 7 => ("StoneQuarry", "slabs", "LStoneQuarry$Slabs;", true)
  | 8 => ("StoneQuarry", "blocks", "LStoneQuarry$Blocks;", true)
  | 9 => ("StoneQuarry", "cuts", "LStoneQuarry$Cuts;", true)
  | 10 => ("StoneQuarry", "line", "LStoneQuarry$Line;", true)
  | 11 => ("StoneQuarry", "text", "LStoneQuarry$CommandText;", true)
  | 12 => ("StoneQuarry", "snapshotTaken", "Z", false)
  | 13 => ("StoneQuarry", "lastErrorPosition", "I", false)
  | _ => ("StoneQuarry", "lastFailedCommand", "I", false)
def tyX12 : Nat → FieldType := fun k => match k with
  | 0 => .object "StoneQuarry$QuarryState"
  | 1 => .object "StoneQuarry$QuarryState"
  | 2 => .object "StoneQuarry$QuarryState"
  | 3 => .object "StoneQuarry$History"
  | 4 => .object "StoneQuarry$Veins"
  | 5 => .object "StoneQuarry$Blast"
  | 6 => .object "StoneQuarry$Tunnels"
  | 7 => .object "StoneQuarry$Slabs"
  | 8 => .object "StoneQuarry$Blocks"
  | 9 => .object "StoneQuarry$Cuts"
  | 10 => .object "StoneQuarry$Line"
  | 11 => .object "StoneQuarry$CommandText"
  | 12 => .boolean
  | 13 => .int
  | _ => .int
abbrev wsX120 : List Cond := u_ws RX12 TX12 15
theorem nmX12 : ∀ a, a < 15 → ∀ b, b < 15 → a ≠ b → (TX12 a).2.1 ≠ (TX12 b).2.1 := by decide +kernel
theorem tyX12_ok : ∀ k, k < 15 → parseFieldDescriptor (TX12 k).2.2.1 = some (tyX12 k) := by decide +kernel
abbrev cX12_init : ByteArray := prog_1_method_1_code
def yX12_init : MethodName := ⟨RX12, "<init>", "()V"⟩
abbrev cX12_setHardness : ByteArray := prog_1_method_2_code
def yX12_setHardness : MethodName := ⟨RX12, "setHardness", "(III)I"⟩
abbrev cX12_dig : ByteArray := prog_1_method_3_code
def yX12_dig : MethodName := ⟨RX12, "dig", "(II)J"⟩
abbrev cX12_hardnessOf : ByteArray := prog_1_method_4_code
def yX12_hardnessOf : MethodName := ⟨RX12, "hardnessOf", "(II)I"⟩
abbrev cX12_isOpen : ByteArray := prog_1_method_5_code
def yX12_isOpen : MethodName := ⟨RX12, "isOpen", "(II)Z"⟩
abbrev cX12_openCount : ByteArray := prog_1_method_6_code
def yX12_openCount : MethodName := ⟨RX12, "openCount", "()I"⟩
abbrev cX12_veinCount : ByteArray := prog_1_method_7_code
def yX12_veinCount : MethodName := ⟨RX12, "veinCount", "(I)I"⟩
abbrev cX12_veinSize : ByteArray := prog_1_method_8_code
def yX12_veinSize : MethodName := ⟨RX12, "veinSize", "(II)I"⟩
abbrev cX12_addCharge : ByteArray := prog_1_method_9_code
def yX12_addCharge : MethodName := ⟨RX12, "addCharge", "(III)I"⟩
abbrev cX12_removeCharge : ByteArray := prog_1_method_10_code
def yX12_removeCharge : MethodName := ⟨RX12, "removeCharge", "(I)I"⟩
abbrev cX12_ignite : ByteArray := prog_1_method_11_code
def yX12_ignite : MethodName := ⟨RX12, "ignite", "(I)I"⟩
abbrev cX12_chargeCount : ByteArray := prog_1_method_12_code
def yX12_chargeCount : MethodName := ⟨RX12, "chargeCount", "()I"⟩
abbrev cX12_chargeRow : ByteArray := prog_1_method_13_code
def yX12_chargeRow : MethodName := ⟨RX12, "chargeRow", "(I)I"⟩
abbrev cX12_chargeColumn : ByteArray := prog_1_method_14_code
def yX12_chargeColumn : MethodName := ⟨RX12, "chargeColumn", "(I)I"⟩
abbrev cX12_chargeStrength : ByteArray := prog_1_method_15_code
def yX12_chargeStrength : MethodName := ⟨RX12, "chargeStrength", "(I)I"⟩
abbrev cX12_chainOf : ByteArray := prog_1_method_16_code
def yX12_chainOf : MethodName := ⟨RX12, "chainOf", "(I)I"⟩
abbrev cX12_chainByRounds : ByteArray := prog_1_method_17_code
def yX12_chainByRounds : MethodName := ⟨RX12, "chainByRounds", "(I)I"⟩
abbrev cX12_opensOf : ByteArray := prog_1_method_18_code
def yX12_opensOf : MethodName := ⟨RX12, "opensOf", "(I)I"⟩
abbrev cX12_bestCharge : ByteArray := prog_1_method_19_code
def yX12_bestCharge : MethodName := ⟨RX12, "bestCharge", "()I"⟩
abbrev cX12_tunnelCost : ByteArray := prog_1_method_20_code
def yX12_tunnelCost : MethodName := ⟨RX12, "tunnelCost", "()I"⟩
abbrev cX12_tunnelByRounds : ByteArray := prog_1_method_21_code
def yX12_tunnelByRounds : MethodName := ⟨RX12, "tunnelByRounds", "()I"⟩
abbrev cX12_mostSlabs : ByteArray := prog_1_method_22_code
def yX12_mostSlabs : MethodName := ⟨RX12, "mostSlabs", "()I"⟩
abbrev cX12_slabsByCells : ByteArray := prog_1_method_23_code
def yX12_slabsByCells : MethodName := ⟨RX12, "slabsByCells", "()I"⟩
abbrev cX12_largestBlock : ByteArray := prog_1_method_24_code
def yX12_largestBlock : MethodName := ⟨RX12, "largestBlock", "()I"⟩
abbrev cX12_blockByHeights : ByteArray := prog_1_method_25_code
def yX12_blockByHeights : MethodName := ⟨RX12, "blockByHeights", "()I"⟩
abbrev cX12_setPrice : ByteArray := prog_1_method_26_code
def yX12_setPrice : MethodName := ⟨RX12, "setPrice", "(II)I"⟩
abbrev cX12_priceOf : ByteArray := prog_1_method_27_code
def yX12_priceOf : MethodName := ⟨RX12, "priceOf", "(I)I"⟩
abbrev cX12_bestCut : ByteArray := prog_1_method_28_code
def yX12_bestCut : MethodName := ⟨RX12, "bestCut", "(I)I"⟩
abbrev cX12_bestCutByTrial : ByteArray := prog_1_method_29_code
def yX12_bestCutByTrial : MethodName := ⟨RX12, "bestCutByTrial", "(I)I"⟩
abbrev cX12_fewestPieces : ByteArray := prog_1_method_30_code
def yX12_fewestPieces : MethodName := ⟨RX12, "fewestPieces", "(I)I"⟩
abbrev cX12_sell : ByteArray := prog_1_method_31_code
def yX12_sell : MethodName := ⟨RX12, "sell", "(I)I"⟩
abbrev cX12_stone : ByteArray := prog_1_method_32_code
def yX12_stone : MethodName := ⟨RX12, "stone", "()I"⟩
abbrev cX12_quarried : ByteArray := prog_1_method_33_code
def yX12_quarried : MethodName := ⟨RX12, "quarried", "()I"⟩
abbrev cX12_sold : ByteArray := prog_1_method_34_code
def yX12_sold : MethodName := ⟨RX12, "sold", "()I"⟩
abbrev cX12_coins : ByteArray := prog_1_method_35_code
def yX12_coins : MethodName := ⟨RX12, "coins", "()J"⟩
abbrev cX12_meanHardness : ByteArray := prog_1_method_36_code
def yX12_meanHardness : MethodName := ⟨RX12, "meanHardness", "()D"⟩
abbrev cX12_openShare : ByteArray := prog_1_method_37_code
def yX12_openShare : MethodName := ⟨RX12, "openShare", "()F"⟩
abbrev cX12_writeRow : ByteArray := prog_1_method_38_code
def yX12_writeRow : MethodName := ⟨RX12, "writeRow", "(I)I"⟩
abbrev cX12_writeCharge : ByteArray := prog_1_method_39_code
def yX12_writeCharge : MethodName := ⟨RX12, "writeCharge", "(I)I"⟩
abbrev cX12_lineAt : ByteArray := prog_1_method_40_code
def yX12_lineAt : MethodName := ⟨RX12, "lineAt", "(I)C"⟩
abbrev cX12_isConsistent : ByteArray := prog_1_method_41_code
def yX12_isConsistent : MethodName := ⟨RX12, "isConsistent", "()Z"⟩
abbrev cX12_type : ByteArray := prog_1_method_42_code
def yX12_type : MethodName := ⟨RX12, "type", "(C)I"⟩
abbrev cX12_execute : ByteArray := prog_1_method_43_code
def yX12_execute : MethodName := ⟨RX12, "execute", "()I"⟩
abbrev cX12_errorPosition : ByteArray := prog_1_method_44_code
def yX12_errorPosition : MethodName := ⟨RX12, "errorPosition", "()I"⟩
abbrev cX12_failedCommand : ByteArray := prog_1_method_45_code
def yX12_failedCommand : MethodName := ⟨RX12, "failedCommand", "()I"⟩
abbrev cX12_undo : ByteArray := prog_1_method_46_code
def yX12_undo : MethodName := ⟨RX12, "undo", "()I"⟩
abbrev cX12_save : ByteArray := prog_1_method_47_code
def yX12_save : MethodName := ⟨RX12, "save", "()I"⟩
abbrev cX12_restore : ByteArray := prog_1_method_48_code
def yX12_restore : MethodName := ⟨RX12, "restore", "()I"⟩
abbrev cX12_blowUp : ByteArray := prog_1_method_49_code
def yX12_blowUp : MethodName := ⟨RX12, "blowUp", "(I)I"⟩
abbrev cX12_sellBar : ByteArray := prog_1_method_50_code
def yX12_sellBar : MethodName := ⟨RX12, "sellBar", "(I)I"⟩
abbrev cX12_chainsAgree : ByteArray := prog_1_method_51_code
def yX12_chainsAgree : MethodName := ⟨RX12, "chainsAgree", "()Z"⟩
abbrev cX12_wallAnswersAgree : ByteArray := prog_1_method_52_code
def yX12_wallAnswersAgree : MethodName := ⟨RX12, "wallAnswersAgree", "()Z"⟩
abbrev cX12_cutsAgree : ByteArray := prog_1_method_53_code
def yX12_cutsAgree : MethodName := ⟨RX12, "cutsAgree", "()Z"⟩
abbrev cX12_carryOut : ByteArray := prog_1_method_54_code
def yX12_carryOut : MethodName := ⟨RX12, "carryOut", "(LStoneQuarry$Command;I)Z"⟩
abbrev cX12_faultOfCommand : ByteArray := prog_1_method_55_code
def yX12_faultOfCommand : MethodName := ⟨RX12, "faultOfCommand", "(LStoneQuarry$Command;III)I"⟩
abbrev cX12_inRange : ByteArray := prog_1_method_56_code
def yX12_inRange : MethodName := ⟨RX12, "inRange", "(III)Z"⟩
abbrev cX12_isCell : ByteArray := prog_1_method_57_code
def yX12_isCell : MethodName := ⟨RX12, "isCell", "(I)Z"⟩
abbrev cX12_cellAt : ByteArray := prog_1_method_58_code
def yX12_cellAt : MethodName := ⟨RX12, "cellAt", "(II)I"⟩
abbrev cX12_neighbourOf : ByteArray := prog_1_method_59_code
def yX12_neighbourOf : MethodName := ⟨RX12, "neighbourOf", "(II)I"⟩
abbrev cX12_distance : ByteArray := prog_1_method_60_code
def yX12_distance : MethodName := ⟨RX12, "distance", "(II)I"⟩
abbrev cX12_clear : ByteArray := prog_1_method_61_code
def yX12_clear : MethodName := ⟨RX12, "clear", "([Z)V"⟩
def RX13 : String := "StoneQuarryModel"
def TX13 : u_T := fun k => match k with
  | 0 => ("StoneQuarryModel", "thrown", "I", false)
  | 1 => ("StoneQuarryModel", "changes", "I", false)
  | 2 => ("StoneQuarryModel", "errorAt", "I", false)
  | 3 => ("StoneQuarryModel", "failedAt", "I", false)
  | 4 => ("StoneQuarryModel", "isSaved", "Z", false)
  | 5 => ("StoneQuarryModel", "v", "[I", true)
  | 6 => ("StoneQuarryModel", "before", "[I", true)
  | 7 => ("StoneQuarryModel", "saved", "[I", true)
  | 8 => ("StoneQuarryModel", "past", "[I", true)
  | 9 => ("StoneQuarryModel", "mark", "[I", true)
  | 10 => ("StoneQuarryModel", "best", "[I", true)
  | 11 => ("StoneQuarryModel", "next", "[I", true)
  | 12 => ("StoneQuarryModel", "worth", "[I", true)
  | 13 => ("StoneQuarryModel", "pieces", "[I", true)
  | 14 => ("StoneQuarryModel", "text", "[I", true)
  | 15 => ("StoneQuarryModel", "line", "[I", true)
  | 16 => ("StoneQuarryModel", "isLeft", "[I", true)
  | 17 => ("StoneQuarryModel", "words", "[I", true)
  | 18 => ("StoneQuarryModel", "wordAt", "[I", true)
  | 19 => ("StoneQuarryModel", "textN", "I", false)
  | 20 => ("StoneQuarryModel", "here", "I", false)
  | 21 => ("StoneQuarryModel", "end", "I", false)
  | 22 => ("StoneQuarryModel", "lineN", "I", false)
  | 23 => ("StoneQuarryModel", "isWrong", "Z", false)
  | _ => ("StoneQuarryModel", "isDoing", "Z", false)
def tyX13 : Nat → FieldType := fun k => match k with
  | 0 => .int
  | 1 => .int
  | 2 => .int
  | 3 => .int
  | 4 => .boolean
  | 5 => .array .int
  | 6 => .array .int
  | 7 => .array .int
  | 8 => .array .int
  | 9 => .array .int
  | 10 => .array .int
  | 11 => .array .int
  | 12 => .array .int
  | 13 => .array .int
  | 14 => .array .int
  | 15 => .array .int
  | 16 => .array .int
  | 17 => .array .int
  | 18 => .array .int
  | 19 => .int
  | 20 => .int
  | 21 => .int
  | 22 => .int
  | 23 => .boolean
  | _ => .boolean
abbrev wsX130 : List Cond := u_ws RX13 TX13 25
theorem nmX13 : ∀ a, a < 25 → ∀ b, b < 25 → a ≠ b → (TX13 a).2.1 ≠ (TX13 b).2.1 := by decide +kernel
theorem tyX13_ok : ∀ k, k < 25 → parseFieldDescriptor (TX13 k).2.2.1 = some (tyX13 k) := by decide +kernel
abbrev cX13_init : ByteArray := prog_15_method_1_code
def yX13_init : MethodName := ⟨RX13, "<init>", "()V"⟩
abbrev cX13_thrown : ByteArray := prog_15_method_2_code
def yX13_thrown : MethodName := ⟨RX13, "thrown", "()I"⟩
abbrev cX13_fail : ByteArray := prog_15_method_3_code
def yX13_fail : MethodName := ⟨RX13, "fail", "(I)I"⟩
abbrev cX13_isIn : ByteArray := prog_15_method_4_code
def yX13_isIn : MethodName := ⟨RX13, "isIn", "(III)Z"⟩
abbrev cX13_lays : ByteArray := prog_15_method_5_code
def yX13_lays : MethodName := ⟨RX13, "lays", "([I[I)V"⟩
abbrev cX13_begins : ByteArray := prog_15_method_6_code
def yX13_begins : MethodName := ⟨RX13, "begins", "()V"⟩
abbrev cX13_ends : ByteArray := prog_15_method_7_code
def yX13_ends : MethodName := ⟨RX13, "ends", "(I)I"⟩
abbrev cX13_isCell : ByteArray := prog_15_method_8_code
def yX13_isCell : MethodName := ⟨RX13, "isCell", "(II)Z"⟩
abbrev cX13_cell : ByteArray := prog_15_method_9_code
def yX13_cell : MethodName := ⟨RX13, "cell", "(II)I"⟩
abbrev cX13_hard : ByteArray := prog_15_method_10_code
def yX13_hard : MethodName := ⟨RX13, "hard", "(I)I"⟩
abbrev cX13_beside : ByteArray := prog_15_method_11_code
def yX13_beside : MethodName := ⟨RX13, "beside", "(II)I"⟩
abbrev cX13_apart : ByteArray := prog_15_method_12_code
def yX13_apart : MethodName := ⟨RX13, "apart", "(II)I"⟩
abbrev cX13_placeOf : ByteArray := prog_15_method_13_code
def yX13_placeOf : MethodName := ⟨RX13, "placeOf", "(I)I"⟩
abbrev cX13_strength : ByteArray := prog_15_method_14_code
def yX13_strength : MethodName := ⟨RX13, "strength", "(I)I"⟩
abbrev cX13_chargeIn : ByteArray := prog_15_method_15_code
def yX13_chargeIn : MethodName := ⟨RX13, "chargeIn", "(I)I"⟩
abbrev cX13_hardens : ByteArray := prog_15_method_16_code
def yX13_hardens : MethodName := ⟨RX13, "hardens", "(III)I"⟩
abbrev cX13_setHardness : ByteArray := prog_15_method_17_code
def yX13_setHardness : MethodName := ⟨RX13, "setHardness", "(III)I"⟩
abbrev cX13_canReach : ByteArray := prog_15_method_18_code
def yX13_canReach : MethodName := ⟨RX13, "canReach", "(I)Z"⟩
abbrev cX13_digs : ByteArray := prog_15_method_19_code
def yX13_digs : MethodName := ⟨RX13, "digs", "(II)I"⟩
abbrev cX13_dig : ByteArray := prog_15_method_20_code
def yX13_dig : MethodName := ⟨RX13, "dig", "(II)J"⟩
abbrev cX13_hardnessOf : ByteArray := prog_15_method_21_code
def yX13_hardnessOf : MethodName := ⟨RX13, "hardnessOf", "(II)I"⟩
abbrev cX13_isOpen : ByteArray := prog_15_method_22_code
def yX13_isOpen : MethodName := ⟨RX13, "isOpen", "(II)Z"⟩
abbrev cX13_opened : ByteArray := prog_15_method_23_code
def yX13_opened : MethodName := ⟨RX13, "opened", "()I"⟩
abbrev cX13_openCount : ByteArray := prog_15_method_24_code
def yX13_openCount : MethodName := ⟨RX13, "openCount", "()I"⟩
abbrev cX13_vein : ByteArray := prog_15_method_25_code
def yX13_vein : MethodName := ⟨RX13, "vein", "(I)I"⟩
abbrev cX13_veinCount : ByteArray := prog_15_method_26_code
def yX13_veinCount : MethodName := ⟨RX13, "veinCount", "(I)I"⟩
abbrev cX13_veinSize : ByteArray := prog_15_method_27_code
def yX13_veinSize : MethodName := ⟨RX13, "veinSize", "(II)I"⟩
abbrev cX13_charges : ByteArray := prog_15_method_28_code
def yX13_charges : MethodName := ⟨RX13, "charges", "(III)I"⟩
abbrev cX13_addCharge : ByteArray := prog_15_method_29_code
def yX13_addCharge : MethodName := ⟨RX13, "addCharge", "(III)I"⟩
abbrev cX13_isCharge : ByteArray := prog_15_method_30_code
def yX13_isCharge : MethodName := ⟨RX13, "isCharge", "(I)Z"⟩
abbrev cX13_goes : ByteArray := prog_15_method_31_code
def yX13_goes : MethodName := ⟨RX13, "goes", "(I)V"⟩
abbrev cX13_removes : ByteArray := prog_15_method_32_code
def yX13_removes : MethodName := ⟨RX13, "removes", "(I)I"⟩
abbrev cX13_removeCharge : ByteArray := prog_15_method_33_code
def yX13_removeCharge : MethodName := ⟨RX13, "removeCharge", "(I)I"⟩
abbrev cX13_opens : ByteArray := prog_15_method_34_code
def yX13_opens : MethodName := ⟨RX13, "opens", "(II)Z"⟩
abbrev cX13_chain : ByteArray := prog_15_method_35_code
def yX13_chain : MethodName := ⟨RX13, "chain", "(I)I"⟩
abbrev cX13_falls : ByteArray := prog_15_method_36_code
def yX13_falls : MethodName := ⟨RX13, "falls", "(II)Z"⟩
abbrev cX13_fallsOf : ByteArray := prog_15_method_37_code
def yX13_fallsOf : MethodName := ⟨RX13, "fallsOf", "(I)I"⟩
abbrev cX13_ignites : ByteArray := prog_15_method_38_code
def yX13_ignites : MethodName := ⟨RX13, "ignites", "(I)I"⟩
abbrev cX13_ignite : ByteArray := prog_15_method_39_code
def yX13_ignite : MethodName := ⟨RX13, "ignite", "(I)I"⟩
abbrev cX13_tells : ByteArray := prog_15_method_40_code
def yX13_tells : MethodName := ⟨RX13, "tells", "(I)I"⟩
abbrev cX13_chargeCount : ByteArray := prog_15_method_41_code
def yX13_chargeCount : MethodName := ⟨RX13, "chargeCount", "()I"⟩
abbrev cX13_looks : ByteArray := prog_15_method_42_code
def yX13_looks : MethodName := ⟨RX13, "looks", "(I)Z"⟩
abbrev cX13_chargeRow : ByteArray := prog_15_method_43_code
def yX13_chargeRow : MethodName := ⟨RX13, "chargeRow", "(I)I"⟩
abbrev cX13_chargeColumn : ByteArray := prog_15_method_44_code
def yX13_chargeColumn : MethodName := ⟨RX13, "chargeColumn", "(I)I"⟩
abbrev cX13_chargeStrength : ByteArray := prog_15_method_45_code
def yX13_chargeStrength : MethodName := ⟨RX13, "chargeStrength", "(I)I"⟩
abbrev cX13_count : ByteArray := prog_15_method_46_code
def yX13_count : MethodName := ⟨RX13, "count", "(I)I"⟩
abbrev cX13_chainOf : ByteArray := prog_15_method_47_code
def yX13_chainOf : MethodName := ⟨RX13, "chainOf", "(I)I"⟩
abbrev cX13_chainByRounds : ByteArray := prog_15_method_48_code
def yX13_chainByRounds : MethodName := ⟨RX13, "chainByRounds", "(I)I"⟩
abbrev cX13_opensOf : ByteArray := prog_15_method_49_code
def yX13_opensOf : MethodName := ⟨RX13, "opensOf", "(I)I"⟩
abbrev cX13_bestCharge : ByteArray := prog_15_method_50_code
def yX13_bestCharge : MethodName := ⟨RX13, "bestCharge", "()I"⟩
abbrev cX13_tunnelCost : ByteArray := prog_15_method_51_code
def yX13_tunnelCost : MethodName := ⟨RX13, "tunnelCost", "()I"⟩
abbrev cX13_tunnelByRounds : ByteArray := prog_15_method_52_code
def yX13_tunnelByRounds : MethodName := ⟨RX13, "tunnelByRounds", "()I"⟩
abbrev cX13_better : ByteArray := prog_15_method_53_code
def yX13_better : MethodName := ⟨RX13, "better", "(II)V"⟩
abbrev cX13_covers : ByteArray := prog_15_method_54_code
def yX13_covers : MethodName := ⟨RX13, "covers", "(I)V"⟩
abbrev cX13_mostSlabs : ByteArray := prog_15_method_55_code
def yX13_mostSlabs : MethodName := ⟨RX13, "mostSlabs", "()I"⟩
abbrev cX13_slabsByCells : ByteArray := prog_15_method_56_code
def yX13_slabsByCells : MethodName := ⟨RX13, "slabsByCells", "()I"⟩
abbrev cX13_isWhole : ByteArray := prog_15_method_57_code
def yX13_isWhole : MethodName := ⟨RX13, "isWhole", "(IIII)Z"⟩
abbrev cX13_largestBlock : ByteArray := prog_15_method_58_code
def yX13_largestBlock : MethodName := ⟨RX13, "largestBlock", "()I"⟩
abbrev cX13_blockByHeights : ByteArray := prog_15_method_59_code
def yX13_blockByHeights : MethodName := ⟨RX13, "blockByHeights", "()I"⟩
abbrev cX13_prices : ByteArray := prog_15_method_60_code
def yX13_prices : MethodName := ⟨RX13, "prices", "(II)I"⟩
abbrev cX13_setPrice : ByteArray := prog_15_method_61_code
def yX13_setPrice : MethodName := ⟨RX13, "setPrice", "(II)I"⟩
abbrev cX13_priceOf : ByteArray := prog_15_method_62_code
def yX13_priceOf : MethodName := ⟨RX13, "priceOf", "(I)I"⟩
abbrev cX13_cuts : ByteArray := prog_15_method_63_code
def yX13_cuts : MethodName := ⟨RX13, "cuts", "()V"⟩
abbrev cX13_isBar : ByteArray := prog_15_method_64_code
def yX13_isBar : MethodName := ⟨RX13, "isBar", "(I)Z"⟩
abbrev cX13_bestCut : ByteArray := prog_15_method_65_code
def yX13_bestCut : MethodName := ⟨RX13, "bestCut", "(I)I"⟩
abbrev cX13_bestCutByTrial : ByteArray := prog_15_method_66_code
def yX13_bestCutByTrial : MethodName := ⟨RX13, "bestCutByTrial", "(I)I"⟩
abbrev cX13_fewestPieces : ByteArray := prog_15_method_67_code
def yX13_fewestPieces : MethodName := ⟨RX13, "fewestPieces", "(I)I"⟩
abbrev cX13_sells : ByteArray := prog_15_method_68_code
def yX13_sells : MethodName := ⟨RX13, "sells", "(I)I"⟩
abbrev cX13_sell : ByteArray := prog_15_method_69_code
def yX13_sell : MethodName := ⟨RX13, "sell", "(I)I"⟩
abbrev cX13_stone : ByteArray := prog_15_method_70_code
def yX13_stone : MethodName := ⟨RX13, "stone", "()I"⟩
abbrev cX13_quarried : ByteArray := prog_15_method_71_code
def yX13_quarried : MethodName := ⟨RX13, "quarried", "()I"⟩
abbrev cX13_sold : ByteArray := prog_15_method_72_code
def yX13_sold : MethodName := ⟨RX13, "sold", "()I"⟩
abbrev cX13_coins : ByteArray := prog_15_method_73_code
def yX13_coins : MethodName := ⟨RX13, "coins", "()J"⟩
abbrev cX13_meanHardness : ByteArray := prog_15_method_74_code
def yX13_meanHardness : MethodName := ⟨RX13, "meanHardness", "()D"⟩
abbrev cX13_openShare : ByteArray := prog_15_method_75_code
def yX13_openShare : MethodName := ⟨RX13, "openShare", "()F"⟩
abbrev cX13_writeRow : ByteArray := prog_15_method_76_code
def yX13_writeRow : MethodName := ⟨RX13, "writeRow", "(I)I"⟩
abbrev cX13_writeCharge : ByteArray := prog_15_method_77_code
def yX13_writeCharge : MethodName := ⟨RX13, "writeCharge", "(I)I"⟩
abbrev cX13_lineAt : ByteArray := prog_15_method_78_code
def yX13_lineAt : MethodName := ⟨RX13, "lineAt", "(I)C"⟩
abbrev cX13_isConsistent : ByteArray := prog_15_method_79_code
def yX13_isConsistent : MethodName := ⟨RX13, "isConsistent", "()Z"⟩
abbrev cX13_type : ByteArray := prog_15_method_80_code
def yX13_type : MethodName := ⟨RX13, "type", "(C)I"⟩
abbrev cX13_sign : ByteArray := prog_15_method_81_code
def yX13_sign : MethodName := ⟨RX13, "sign", "()I"⟩
abbrev cX13_expects : ByteArray := prog_15_method_82_code
def yX13_expects : MethodName := ⟨RX13, "expects", "(I)V"⟩
abbrev cX13_number : ByteArray := prog_15_method_83_code
def yX13_number : MethodName := ⟨RX13, "number", "(I)I"⟩
abbrev cX13_word : ByteArray := prog_15_method_84_code
def yX13_word : MethodName := ⟨RX13, "word", "()I"⟩
abbrev cX13_does : ByteArray := prog_15_method_85_code
def yX13_does : MethodName := ⟨RX13, "does", "(IIII)I"⟩
abbrev cX13_command : ByteArray := prog_15_method_86_code
def yX13_command : MethodName := ⟨RX13, "command", "()V"⟩
abbrev cX13_commands : ByteArray := prog_15_method_87_code
def yX13_commands : MethodName := ⟨RX13, "commands", "()I"⟩
abbrev cX13_execute : ByteArray := prog_15_method_88_code
def yX13_execute : MethodName := ⟨RX13, "execute", "()I"⟩
abbrev cX13_errorPosition : ByteArray := prog_15_method_89_code
def yX13_errorPosition : MethodName := ⟨RX13, "errorPosition", "()I"⟩
abbrev cX13_failedCommand : ByteArray := prog_15_method_90_code
def yX13_failedCommand : MethodName := ⟨RX13, "failedCommand", "()I"⟩
abbrev cX13_undo : ByteArray := prog_15_method_91_code
def yX13_undo : MethodName := ⟨RX13, "undo", "()I"⟩
abbrev cX13_save : ByteArray := prog_15_method_92_code
def yX13_save : MethodName := ⟨RX13, "save", "()I"⟩
abbrev cX13_restore : ByteArray := prog_15_method_93_code
def yX13_restore : MethodName := ⟨RX13, "restore", "()I"⟩
def RJx145de : String := "java/io/Serializable"
def TJx145de : u_T := fun k => match k with
  | _ => ("", "", "", false)
def tyJx145de : Nat → FieldType := fun k => match k with
  | _ => .int
abbrev wsJx145de0 : List Cond := u_ws RJx145de TJx145de 0
theorem nmJx145de : ∀ a, a < 0 → ∀ b, b < 0 → a ≠ b → (TJx145de a).2.1 ≠ (TJx145de b).2.1 := by decide +kernel
theorem tyJx145de_ok : ∀ k, k < 0 → parseFieldDescriptor (TJx145de k).2.2.1 = some (tyJx145de k) := by decide +kernel
def RJx00060 : String := "java/lang/ArrayIndexOutOfBoundsException"
def TJx00060 : u_T := fun k => match k with
  | 0 => ("java/lang/Throwable", "backtrace", "Ljava/lang/Object;", false)
  | 1 => ("java/lang/Throwable", "detailMessage", "Ljava/lang/String;", false)
  | 2 => ("java/lang/Throwable", "cause", "Ljava/lang/Throwable;", false)
  | 3 => ("java/lang/Throwable", "stackTrace", "[Ljava/lang/StackTraceElement;", false)
  | 4 => ("java/lang/Throwable", "depth", "I", false)
  | _ => ("java/lang/Throwable", "suppressedExceptions", "Ljava/util/List;", false)
def tyJx00060 : Nat → FieldType := fun k => match k with
  | 0 => .object "java/lang/Object"
  | 1 => .object "java/lang/String"
  | 2 => .object "java/lang/Throwable"
  | 3 => .array (.object "java/lang/StackTraceElement")
  | 4 => .int
  | _ => .object "java/util/List"
abbrev wsJx000600 : List Cond := u_ws RJx00060 TJx00060 6
theorem nmJx00060 : ∀ a, a < 6 → ∀ b, b < 6 → a ≠ b → (TJx00060 a).2.1 ≠ (TJx00060 b).2.1 := by decide +kernel
theorem tyJx00060_ok : ∀ k, k < 6 → parseFieldDescriptor (TJx00060 k).2.2.1 = some (tyJx00060 k) := by decide +kernel
abbrev cJx00060_init_a7421 : ByteArray := prog_18_method_2_code
def yJx00060_init_a7421 : MethodName := ⟨RJx00060, "<init>", "(Ljava/lang/String;)V"⟩
def RJx9f9b0 : String := "java/lang/CharSequence"
def TJx9f9b0 : u_T := fun k => match k with
  | _ => ("", "", "", false)
def tyJx9f9b0 : Nat → FieldType := fun k => match k with
  | _ => .int
abbrev wsJx9f9b00 : List Cond := u_ws RJx9f9b0 TJx9f9b0 0
theorem nmJx9f9b0 : ∀ a, a < 0 → ∀ b, b < 0 → a ≠ b → (TJx9f9b0 a).2.1 ≠ (TJx9f9b0 b).2.1 := by decide +kernel
theorem tyJx9f9b0_ok : ∀ k, k < 0 → parseFieldDescriptor (TJx9f9b0 k).2.2.1 = some (tyJx9f9b0 k) := by decide +kernel
def RJxb160c : String := "java/lang/Comparable"
def TJxb160c : u_T := fun k => match k with
  | _ => ("", "", "", false)
def tyJxb160c : Nat → FieldType := fun k => match k with
  | _ => .int
abbrev wsJxb160c0 : List Cond := u_ws RJxb160c TJxb160c 0
theorem nmJxb160c : ∀ a, a < 0 → ∀ b, b < 0 → a ≠ b → (TJxb160c a).2.1 ≠ (TJxb160c b).2.1 := by decide +kernel
theorem tyJxb160c_ok : ∀ k, k < 0 → parseFieldDescriptor (TJxb160c k).2.2.1 = some (tyJxb160c k) := by decide +kernel
def RJx29ce0 : String := "java/lang/Enum"
def TJx29ce0 : u_T := fun k => match k with
  | _ => ("", "", "", false)
def tyJx29ce0 : Nat → FieldType := fun k => match k with
  | _ => .int
abbrev wsJx29ce00 : List Cond := u_ws RJx29ce0 TJx29ce0 0
theorem nmJx29ce0 : ∀ a, a < 0 → ∀ b, b < 0 → a ≠ b → (TJx29ce0 a).2.1 ≠ (TJx29ce0 b).2.1 := by decide +kernel
theorem tyJx29ce0_ok : ∀ k, k < 0 → parseFieldDescriptor (TJx29ce0 k).2.2.1 = some (tyJx29ce0 k) := by decide +kernel
abbrev cJx29ce0_ordinal_8abf5 : ByteArray := prog_21_method_2_code
def yJx29ce0_ordinal_8abf5 : MethodName := ⟨RJx29ce0, "ordinal", "()I"⟩
def RJ9 : String := "java/lang/Math"
def TJ9 : u_T := fun k => match k with
  | _ => ("", "", "", false)
def tyJ9 : Nat → FieldType := fun k => match k with
  | _ => .int
abbrev wsJ90 : List Cond := u_ws RJ9 TJ9 0
theorem nmJ9 : ∀ a, a < 0 → ∀ b, b < 0 → a ≠ b → (TJ9 a).2.1 ≠ (TJ9 b).2.1 := by decide +kernel
theorem tyJ9_ok : ∀ k, k < 0 → parseFieldDescriptor (TJ9 k).2.2.1 = some (tyJ9 k) := by decide +kernel
abbrev cJ9_abs_0f7a4 : ByteArray := prog_26_method_59_code
def yJ9_abs_0f7a4 : MethodName := ⟨RJ9, "abs", "(I)I"⟩
abbrev cJ9_max_7cf53 : ByteArray := prog_26_method_65_code
def yJ9_max_7cf53 : MethodName := ⟨RJ9, "max", "(II)I"⟩
abbrev cJ9_min_7cf53 : ByteArray := prog_26_method_69_code
def yJ9_min_7cf53 : MethodName := ⟨RJ9, "min", "(II)I"⟩
def RJ0 : String := "java/lang/String"
def TJ0 : u_T := fun k => match k with
  | 0 => ("java/lang/String", "value", "[B", true)
  | _ => ("java/lang/String", "coder", "B", true)
def tyJ0 : Nat → FieldType := fun k => match k with
  | 0 => .array .byte
  | _ => .byte
abbrev wsJ00 : List Cond := u_ws RJ0 TJ0 2
theorem nmJ0 : ∀ a, a < 2 → ∀ b, b < 2 → a ≠ b → (TJ0 a).2.1 ≠ (TJ0 b).2.1 := by decide +kernel
theorem tyJ0_ok : ∀ k, k < 2 → parseFieldDescriptor (TJ0 k).2.2.1 = some (tyJ0 k) := by decide +kernel
abbrev cJ0_length_8abf5 : ByteArray := prog_28_method_54_code
def yJ0_length_8abf5 : MethodName := ⟨RJ0, "length", "()I"⟩
abbrev cJ0_charAt_5068e : ByteArray := prog_28_method_56_code
def yJ0_charAt_5068e : MethodName := ⟨RJ0, "charAt", "(I)C"⟩
abbrev cJ0_coder_7d493 : ByteArray := prog_28_method_152_code
def yJ0_coder_7d493 : MethodName := ⟨RJ0, "coder", "()B"⟩
abbrev cJ0_isLatin1_aae02 : ByteArray := prog_28_method_154_code
def yJ0_isLatin1_aae02 : MethodName := ⟨RJ0, "isLatin1", "()Z"⟩
abbrev cJ0_checkIndex_df160 : ByteArray := prog_28_method_155_code
def yJ0_checkIndex_df160 : MethodName := ⟨RJ0, "checkIndex", "(II)V"⟩
def RJ1 : String := "java/lang/StringLatin1"
def TJ1 : u_T := fun k => match k with
  | _ => ("", "", "", false)
def tyJ1 : Nat → FieldType := fun k => match k with
  | _ => .int
abbrev wsJ10 : List Cond := u_ws RJ1 TJ1 0
theorem nmJ1 : ∀ a, a < 0 → ∀ b, b < 0 → a ≠ b → (TJ1 a).2.1 ≠ (TJ1 b).2.1 := by decide +kernel
theorem tyJ1_ok : ∀ k, k < 0 → parseFieldDescriptor (TJ1 k).2.2.1 = some (tyJ1 k) := by decide +kernel
abbrev cJ1_charAt_3b067 : ByteArray := prog_29_method_2_code
def yJ1_charAt_3b067 : MethodName := ⟨RJ1, "charAt", "([BI)C"⟩
def RJ2 : String := "java/lang/StringUTF16"
def TJ2 : u_T := fun k => match k with
  | _ => ("", "", "", false)
def tyJ2 : Nat → FieldType := fun k => match k with
  | _ => .int
abbrev wsJ20 : List Cond := u_ws RJ2 TJ2 0
theorem nmJ2 : ∀ a, a < 0 → ∀ b, b < 0 → a ≠ b → (TJ2 a).2.1 ≠ (TJ2 b).2.1 := by decide +kernel
theorem tyJ2_ok : ∀ k, k < 0 → parseFieldDescriptor (TJ2 k).2.2.1 = some (tyJ2 k) := by decide +kernel
abbrev cJ2_getChar_3b067 : ByteArray := prog_30_method_5_code
def yJ2_getChar_3b067 : MethodName := ⟨RJ2, "getChar", "([BI)C"⟩
abbrev cJ2_length_9d52b : ByteArray := prog_30_method_6_code
def yJ2_length_9d52b : MethodName := ⟨RJ2, "length", "([B)I"⟩
abbrev cJ2_charAt_3b067 : ByteArray := prog_30_method_83_code
def yJ2_charAt_3b067 : MethodName := ⟨RJ2, "charAt", "([BI)C"⟩
abbrev cJ2_checkIndex_2214a : ByteArray := prog_30_method_91_code
def yJ2_checkIndex_2214a : MethodName := ⟨RJ2, "checkIndex", "(I[B)V"⟩
def RJ10 : String := "java/lang/System"
def TJ10 : u_T := fun k => match k with
  | _ => ("", "", "", false)
def tyJ10 : Nat → FieldType := fun k => match k with
  | _ => .int
abbrev wsJ100 : List Cond := u_ws RJ10 TJ10 0
theorem nmJ10 : ∀ a, a < 0 → ∀ b, b < 0 → a ≠ b → (TJ10 a).2.1 ≠ (TJ10 b).2.1 := by decide +kernel
theorem tyJ10_ok : ∀ k, k < 0 → parseFieldDescriptor (TJ10 k).2.2.1 = some (tyJ10 k) := by decide +kernel
def RJxfd54e : String := "java/lang/constant/Constable"
def TJxfd54e : u_T := fun k => match k with
  | _ => ("", "", "", false)
def tyJxfd54e : Nat → FieldType := fun k => match k with
  | _ => .int
abbrev wsJxfd54e0 : List Cond := u_ws RJxfd54e TJxfd54e 0
theorem nmJxfd54e : ∀ a, a < 0 → ∀ b, b < 0 → a ≠ b → (TJxfd54e a).2.1 ≠ (TJxfd54e b).2.1 := by decide +kernel
theorem tyJxfd54e_ok : ∀ k, k < 0 → parseFieldDescriptor (TJxfd54e k).2.2.1 = some (tyJxfd54e k) := by decide +kernel
def RJx3cf43 : String := "java/lang/constant/ConstantDesc"
def TJx3cf43 : u_T := fun k => match k with
  | _ => ("", "", "", false)
def tyJx3cf43 : Nat → FieldType := fun k => match k with
  | _ => .int
abbrev wsJx3cf430 : List Cond := u_ws RJx3cf43 TJx3cf43 0
theorem nmJx3cf43 : ∀ a, a < 0 → ∀ b, b < 0 → a ≠ b → (TJx3cf43 a).2.1 ≠ (TJx3cf43 b).2.1 := by decide +kernel
theorem tyJx3cf43_ok : ∀ k, k < 0 → parseFieldDescriptor (TJx3cf43 k).2.2.1 = some (tyJx3cf43 k) := by decide +kernel
def RJ7 : String := "java/util/Arrays"
def TJ7 : u_T := fun k => match k with
  | _ => ("", "", "", false)
def tyJ7 : Nat → FieldType := fun k => match k with
  | _ => .int
abbrev wsJ70 : List Cond := u_ws RJ7 TJ7 0
theorem nmJ7 : ∀ a, a < 0 → ∀ b, b < 0 → a ≠ b → (TJ7 a).2.1 ≠ (TJ7 b).2.1 := by decide +kernel
theorem tyJ7_ok : ∀ k, k < 0 → parseFieldDescriptor (TJ7 k).2.2.1 = some (tyJ7 k) := by decide +kernel
abbrev cJ7_fill_53178 : ByteArray := prog_36_method_103_code
def yJ7_fill_53178 : MethodName := ⟨RJ7, "fill", "([II)V"⟩
def RJ3 : String := "jdk/internal/util/Preconditions"
def TJ3 : u_T := fun k => match k with
  | _ => ("", "", "", false)
def tyJ3 : Nat → FieldType := fun k => match k with
  | _ => .int
abbrev wsJ30 : List Cond := u_ws RJ3 TJ3 0
theorem nmJ3 : ∀ a, a < 0 → ∀ b, b < 0 → a ≠ b → (TJ3 a).2.1 ≠ (TJ3 b).2.1 := by decide +kernel
theorem tyJ3_ok : ∀ k, k < 0 → parseFieldDescriptor (TJ3 k).2.2.1 = some (tyJ3 k) := by decide +kernel
abbrev cJ3_checkIndex_8e157 : ByteArray := prog_38_method_11_code
def yJ3_checkIndex_8e157 : MethodName := ⟨RJ3, "checkIndex", "(IILjava/util/function/BiFunction;)I"⟩
def RL : String := "StoneQuarryLaw"
abbrev cL_setHardness : ByteArray := method_3_code
def yL_setHardness : MethodName := ⟨RL, "setHardness", "(LStoneQuarry;III[J)I"⟩
abbrev cL_dig : ByteArray := method_4_code
def yL_dig : MethodName := ⟨RL, "dig", "(LStoneQuarry;II[J)I"⟩
abbrev cL_hardnessOf : ByteArray := method_5_code
def yL_hardnessOf : MethodName := ⟨RL, "hardnessOf", "(LStoneQuarry;II[J)I"⟩
abbrev cL_isOpen : ByteArray := method_6_code
def yL_isOpen : MethodName := ⟨RL, "isOpen", "(LStoneQuarry;II[J)I"⟩
abbrev cL_veinCount : ByteArray := method_7_code
def yL_veinCount : MethodName := ⟨RL, "veinCount", "(LStoneQuarry;I[J)I"⟩
abbrev cL_veinSize : ByteArray := method_8_code
def yL_veinSize : MethodName := ⟨RL, "veinSize", "(LStoneQuarry;II[J)I"⟩
abbrev cL_addCharge : ByteArray := method_9_code
def yL_addCharge : MethodName := ⟨RL, "addCharge", "(LStoneQuarry;III[J)I"⟩
abbrev cL_removeCharge : ByteArray := method_10_code
def yL_removeCharge : MethodName := ⟨RL, "removeCharge", "(LStoneQuarry;I[J)I"⟩
abbrev cL_ignite : ByteArray := method_11_code
def yL_ignite : MethodName := ⟨RL, "ignite", "(LStoneQuarry;I[J)I"⟩
abbrev cL_chargeRow : ByteArray := method_12_code
def yL_chargeRow : MethodName := ⟨RL, "chargeRow", "(LStoneQuarry;I[J)I"⟩
abbrev cL_chargeColumn : ByteArray := method_13_code
def yL_chargeColumn : MethodName := ⟨RL, "chargeColumn", "(LStoneQuarry;I[J)I"⟩
abbrev cL_chargeStrength : ByteArray := method_14_code
def yL_chargeStrength : MethodName := ⟨RL, "chargeStrength", "(LStoneQuarry;I[J)I"⟩
abbrev cL_chainOf : ByteArray := method_15_code
def yL_chainOf : MethodName := ⟨RL, "chainOf", "(LStoneQuarry;I[J)I"⟩
abbrev cL_chainByRounds : ByteArray := method_16_code
def yL_chainByRounds : MethodName := ⟨RL, "chainByRounds", "(LStoneQuarry;I[J)I"⟩
abbrev cL_opensOf : ByteArray := method_17_code
def yL_opensOf : MethodName := ⟨RL, "opensOf", "(LStoneQuarry;I[J)I"⟩
abbrev cL_bestCharge : ByteArray := method_18_code
def yL_bestCharge : MethodName := ⟨RL, "bestCharge", "(LStoneQuarry;[J)I"⟩
abbrev cL_setPrice : ByteArray := method_19_code
def yL_setPrice : MethodName := ⟨RL, "setPrice", "(LStoneQuarry;II[J)I"⟩
abbrev cL_priceOf : ByteArray := method_20_code
def yL_priceOf : MethodName := ⟨RL, "priceOf", "(LStoneQuarry;I[J)I"⟩
abbrev cL_bestCut : ByteArray := method_21_code
def yL_bestCut : MethodName := ⟨RL, "bestCut", "(LStoneQuarry;I[J)I"⟩
abbrev cL_bestCutByTrial : ByteArray := method_22_code
def yL_bestCutByTrial : MethodName := ⟨RL, "bestCutByTrial", "(LStoneQuarry;I[J)I"⟩
abbrev cL_fewestPieces : ByteArray := method_23_code
def yL_fewestPieces : MethodName := ⟨RL, "fewestPieces", "(LStoneQuarry;I[J)I"⟩
abbrev cL_sell : ByteArray := method_24_code
def yL_sell : MethodName := ⟨RL, "sell", "(LStoneQuarry;I[J)I"⟩
abbrev cL_meanHardness : ByteArray := method_25_code
def yL_meanHardness : MethodName := ⟨RL, "meanHardness", "(LStoneQuarry;[D)I"⟩
abbrev cL_writeRow : ByteArray := method_26_code
def yL_writeRow : MethodName := ⟨RL, "writeRow", "(LStoneQuarry;I[J)I"⟩
abbrev cL_writeCharge : ByteArray := method_27_code
def yL_writeCharge : MethodName := ⟨RL, "writeCharge", "(LStoneQuarry;I[J)I"⟩
abbrev cL_lineAt : ByteArray := method_28_code
def yL_lineAt : MethodName := ⟨RL, "lineAt", "(LStoneQuarry;I[J)I"⟩
abbrev cL_type : ByteArray := method_29_code
def yL_type : MethodName := ⟨RL, "type", "(LStoneQuarry;C[J)I"⟩
abbrev cL_execute : ByteArray := method_30_code
def yL_execute : MethodName := ⟨RL, "execute", "(LStoneQuarry;[J)I"⟩
abbrev cL_errorPosition : ByteArray := method_31_code
def yL_errorPosition : MethodName := ⟨RL, "errorPosition", "(LStoneQuarry;[J)I"⟩
abbrev cL_failedCommand : ByteArray := method_32_code
def yL_failedCommand : MethodName := ⟨RL, "failedCommand", "(LStoneQuarry;[J)I"⟩
abbrev cL_undo : ByteArray := method_33_code
def yL_undo : MethodName := ⟨RL, "undo", "(LStoneQuarry;[J)I"⟩
abbrev cL_restore : ByteArray := method_34_code
def yL_restore : MethodName := ⟨RL, "restore", "(LStoneQuarry;[J)I"⟩
abbrev cL_law : ByteArray := code
def yL_law : MethodName := ⟨RL, "law", "([I)Z"⟩
theorem dJx00060_init_a7421_0 : decode cJx00060_init_a7421 0 = .ok (.aload_n 0, 1) := by decide +kernel
theorem dJx00060_init_a7421_1 : decode cJx00060_init_a7421 1 = .ok (.aload_n 1, 1) := by decide +kernel
theorem dJx00060_init_a7421_2 : decode cJx00060_init_a7421 2 = .ok (.invokespecial 7, 3) := by decide +kernel
theorem dJx00060_init_a7421_5 : decode cJx00060_init_a7421 5 = .ok (.return_, 1) := by decide +kernel
theorem dJx29ce0_ordinal_8abf5_0 : decode cJx29ce0_ordinal_8abf5 0 = .ok (.aload_n 0, 1) := by decide +kernel
theorem dJx29ce0_ordinal_8abf5_1 : decode cJx29ce0_ordinal_8abf5 1 = .ok (.getfield 7, 3) := by decide +kernel
theorem dJx29ce0_ordinal_8abf5_4 : decode cJx29ce0_ordinal_8abf5 4 = .ok (.ireturn, 1) := by decide +kernel
theorem dJ9_abs_0f7a4_0 : decode cJ9_abs_0f7a4 0 = .ok (.iload_n 0, 1) := by decide +kernel
theorem dJ9_abs_0f7a4_1 : decode cJ9_abs_0f7a4 1 = .ok (.ifCond .ge 8, 3) := by decide +kernel
theorem dJ9_abs_0f7a4_4 : decode cJ9_abs_0f7a4 4 = .ok (.iload_n 0, 1) := by decide +kernel
theorem dJ9_abs_0f7a4_5 : decode cJ9_abs_0f7a4 5 = .ok (.ineg, 1) := by decide +kernel
theorem dJ9_abs_0f7a4_6 : decode cJ9_abs_0f7a4 6 = .ok (.goto 4, 3) := by decide +kernel
theorem dJ9_abs_0f7a4_9 : decode cJ9_abs_0f7a4 9 = .ok (.iload_n 0, 1) := by decide +kernel
theorem dJ9_abs_0f7a4_10 : decode cJ9_abs_0f7a4 10 = .ok (.ireturn, 1) := by decide +kernel
theorem dJ9_max_7cf53_0 : decode cJ9_max_7cf53 0 = .ok (.iload_n 0, 1) := by decide +kernel
theorem dJ9_max_7cf53_1 : decode cJ9_max_7cf53 1 = .ok (.iload_n 1, 1) := by decide +kernel
theorem dJ9_max_7cf53_2 : decode cJ9_max_7cf53 2 = .ok (.if_icmp .lt 7, 3) := by decide +kernel
theorem dJ9_max_7cf53_5 : decode cJ9_max_7cf53 5 = .ok (.iload_n 0, 1) := by decide +kernel
theorem dJ9_max_7cf53_6 : decode cJ9_max_7cf53 6 = .ok (.goto 4, 3) := by decide +kernel
theorem dJ9_max_7cf53_9 : decode cJ9_max_7cf53 9 = .ok (.iload_n 1, 1) := by decide +kernel
theorem dJ9_max_7cf53_10 : decode cJ9_max_7cf53 10 = .ok (.ireturn, 1) := by decide +kernel
theorem dJ9_min_7cf53_0 : decode cJ9_min_7cf53 0 = .ok (.iload_n 0, 1) := by decide +kernel
theorem dJ9_min_7cf53_1 : decode cJ9_min_7cf53 1 = .ok (.iload_n 1, 1) := by decide +kernel
theorem dJ9_min_7cf53_2 : decode cJ9_min_7cf53 2 = .ok (.if_icmp .gt 7, 3) := by decide +kernel
theorem dJ9_min_7cf53_5 : decode cJ9_min_7cf53 5 = .ok (.iload_n 0, 1) := by decide +kernel
theorem dJ9_min_7cf53_6 : decode cJ9_min_7cf53 6 = .ok (.goto 4, 3) := by decide +kernel
theorem dJ9_min_7cf53_9 : decode cJ9_min_7cf53 9 = .ok (.iload_n 1, 1) := by decide +kernel
theorem dJ9_min_7cf53_10 : decode cJ9_min_7cf53 10 = .ok (.ireturn, 1) := by decide +kernel
theorem dJ0_length_8abf5_0 : decode cJ0_length_8abf5 0 = .ok (.aload_n 0, 1) := by decide +kernel
theorem dJ0_length_8abf5_1 : decode cJ0_length_8abf5 1 = .ok (.getfield 9, 3) := by decide +kernel
theorem dJ0_length_8abf5_4 : decode cJ0_length_8abf5 4 = .ok (.arraylength, 1) := by decide +kernel
theorem dJ0_length_8abf5_5 : decode cJ0_length_8abf5 5 = .ok (.aload_n 0, 1) := by decide +kernel
theorem dJ0_length_8abf5_6 : decode cJ0_length_8abf5 6 = .ok (.invokevirtual 335, 3) := by decide +kernel
theorem dJ0_length_8abf5_9 : decode cJ0_length_8abf5 9 = .ok (.ishr, 1) := by decide +kernel
theorem dJ0_length_8abf5_10 : decode cJ0_length_8abf5 10 = .ok (.ireturn, 1) := by decide +kernel
theorem dJ0_charAt_5068e_0 : decode cJ0_charAt_5068e 0 = .ok (.aload_n 0, 1) := by decide +kernel
theorem dJ0_charAt_5068e_1 : decode cJ0_charAt_5068e 1 = .ok (.invokevirtual 492, 3) := by decide +kernel
theorem dJ0_charAt_5068e_4 : decode cJ0_charAt_5068e 4 = .ok (.ifCond .eq 12, 3) := by decide +kernel
theorem dJ0_charAt_5068e_7 : decode cJ0_charAt_5068e 7 = .ok (.aload_n 0, 1) := by decide +kernel
theorem dJ0_charAt_5068e_8 : decode cJ0_charAt_5068e 8 = .ok (.getfield 9, 3) := by decide +kernel
theorem dJ0_charAt_5068e_11 : decode cJ0_charAt_5068e 11 = .ok (.iload_n 1, 1) := by decide +kernel
theorem dJ0_charAt_5068e_12 : decode cJ0_charAt_5068e 12 = .ok (.invokestatic 495, 3) := by decide +kernel
theorem dJ0_charAt_5068e_15 : decode cJ0_charAt_5068e 15 = .ok (.ireturn, 1) := by decide +kernel
theorem dJ0_charAt_5068e_16 : decode cJ0_charAt_5068e 16 = .ok (.aload_n 0, 1) := by decide +kernel
theorem dJ0_charAt_5068e_17 : decode cJ0_charAt_5068e 17 = .ok (.getfield 9, 3) := by decide +kernel
theorem dJ0_charAt_5068e_20 : decode cJ0_charAt_5068e 20 = .ok (.iload_n 1, 1) := by decide +kernel
theorem dJ0_charAt_5068e_21 : decode cJ0_charAt_5068e 21 = .ok (.invokestatic 498, 3) := by decide +kernel
theorem dJ0_charAt_5068e_24 : decode cJ0_charAt_5068e 24 = .ok (.ireturn, 1) := by decide +kernel
theorem dJ0_coder_7d493_0 : decode cJ0_coder_7d493 0 = .ok (.getstatic 38, 3) := by decide +kernel
theorem dJ0_coder_7d493_3 : decode cJ0_coder_7d493 3 = .ok (.ifCond .eq 10, 3) := by decide +kernel
theorem dJ0_coder_7d493_6 : decode cJ0_coder_7d493 6 = .ok (.aload_n 0, 1) := by decide +kernel
theorem dJ0_coder_7d493_7 : decode cJ0_coder_7d493 7 = .ok (.getfield 15, 3) := by decide +kernel
theorem dJ0_coder_7d493_10 : decode cJ0_coder_7d493 10 = .ok (.goto 4, 3) := by decide +kernel
theorem dJ0_coder_7d493_13 : decode cJ0_coder_7d493 13 = .ok (.iconst 1, 1) := by decide +kernel
theorem dJ0_coder_7d493_14 : decode cJ0_coder_7d493 14 = .ok (.ireturn, 1) := by decide +kernel
theorem dJ0_isLatin1_aae02_0 : decode cJ0_isLatin1_aae02 0 = .ok (.getstatic 38, 3) := by decide +kernel
theorem dJ0_isLatin1_aae02_3 : decode cJ0_isLatin1_aae02 3 = .ok (.ifCond .eq 14, 3) := by decide +kernel
theorem dJ0_isLatin1_aae02_6 : decode cJ0_isLatin1_aae02 6 = .ok (.aload_n 0, 1) := by decide +kernel
theorem dJ0_isLatin1_aae02_7 : decode cJ0_isLatin1_aae02 7 = .ok (.getfield 15, 3) := by decide +kernel
theorem dJ0_isLatin1_aae02_10 : decode cJ0_isLatin1_aae02 10 = .ok (.ifCond .ne 7, 3) := by decide +kernel
theorem dJ0_isLatin1_aae02_13 : decode cJ0_isLatin1_aae02 13 = .ok (.iconst 1, 1) := by decide +kernel
theorem dJ0_isLatin1_aae02_14 : decode cJ0_isLatin1_aae02 14 = .ok (.goto 4, 3) := by decide +kernel
theorem dJ0_isLatin1_aae02_17 : decode cJ0_isLatin1_aae02 17 = .ok (.iconst 0, 1) := by decide +kernel
theorem dJ0_isLatin1_aae02_18 : decode cJ0_isLatin1_aae02 18 = .ok (.ireturn, 1) := by decide +kernel
theorem dJ0_checkIndex_df160_0 : decode cJ0_checkIndex_df160 0 = .ok (.iload_n 0, 1) := by decide +kernel
theorem dJ0_checkIndex_df160_1 : decode cJ0_checkIndex_df160 1 = .ok (.iload_n 1, 1) := by decide +kernel
theorem dJ0_checkIndex_df160_2 : decode cJ0_checkIndex_df160 2 = .ok (.getstatic 1053, 3) := by decide +kernel
theorem dJ0_checkIndex_df160_5 : decode cJ0_checkIndex_df160 5 = .ok (.invokestatic 1059, 3) := by decide +kernel
theorem dJ0_checkIndex_df160_8 : decode cJ0_checkIndex_df160 8 = .ok (.pop, 1) := by decide +kernel
theorem dJ0_checkIndex_df160_9 : decode cJ0_checkIndex_df160 9 = .ok (.return_, 1) := by decide +kernel
theorem dJ1_charAt_3b067_0 : decode cJ1_charAt_3b067 0 = .ok (.iload_n 1, 1) := by decide +kernel
theorem dJ1_charAt_3b067_1 : decode cJ1_charAt_3b067 1 = .ok (.aload_n 0, 1) := by decide +kernel
theorem dJ1_charAt_3b067_2 : decode cJ1_charAt_3b067 2 = .ok (.arraylength, 1) := by decide +kernel
theorem dJ1_charAt_3b067_3 : decode cJ1_charAt_3b067 3 = .ok (.invokestatic 9, 3) := by decide +kernel
theorem dJ1_charAt_3b067_6 : decode cJ1_charAt_3b067 6 = .ok (.aload_n 0, 1) := by decide +kernel
theorem dJ1_charAt_3b067_7 : decode cJ1_charAt_3b067 7 = .ok (.iload_n 1, 1) := by decide +kernel
theorem dJ1_charAt_3b067_8 : decode cJ1_charAt_3b067 8 = .ok (.baload, 1) := by decide +kernel
theorem dJ1_charAt_3b067_9 : decode cJ1_charAt_3b067 9 = .ok (.sipush 255, 3) := by decide +kernel
theorem dJ1_charAt_3b067_12 : decode cJ1_charAt_3b067 12 = .ok (.iand, 1) := by decide +kernel
theorem dJ1_charAt_3b067_13 : decode cJ1_charAt_3b067 13 = .ok (.i2c, 1) := by decide +kernel
theorem dJ1_charAt_3b067_14 : decode cJ1_charAt_3b067 14 = .ok (.ireturn, 1) := by decide +kernel
theorem dJ2_getChar_3b067_0 : decode cJ2_getChar_3b067 0 = .ok (.getstatic 44, 3) := by decide +kernel
theorem dJ2_getChar_3b067_3 : decode cJ2_getChar_3b067 3 = .ok (.ifCond .ne 25, 3) := by decide +kernel
theorem dJ2_getChar_3b067_6 : decode cJ2_getChar_3b067 6 = .ok (.iload_n 1, 1) := by decide +kernel
theorem dJ2_getChar_3b067_7 : decode cJ2_getChar_3b067 7 = .ok (.ifCond .lt 11, 3) := by decide +kernel
theorem dJ2_getChar_3b067_10 : decode cJ2_getChar_3b067 10 = .ok (.iload_n 1, 1) := by decide +kernel
theorem dJ2_getChar_3b067_11 : decode cJ2_getChar_3b067 11 = .ok (.aload_n 0, 1) := by decide +kernel
theorem dJ2_getChar_3b067_12 : decode cJ2_getChar_3b067 12 = .ok (.invokestatic 48, 3) := by decide +kernel
theorem dJ2_getChar_3b067_15 : decode cJ2_getChar_3b067 15 = .ok (.if_icmp .lt 13, 3) := by decide +kernel
theorem dJ2_getChar_3b067_18 : decode cJ2_getChar_3b067 18 = .ok (.new 52, 3) := by decide +kernel
theorem dJ2_getChar_3b067_21 : decode cJ2_getChar_3b067 21 = .ok (.dup, 1) := by decide +kernel
theorem dJ2_getChar_3b067_22 : decode cJ2_getChar_3b067 22 = .ok (.ldc 54, 2) := by decide +kernel
theorem dJ2_getChar_3b067_24 : decode cJ2_getChar_3b067 24 = .ok (.invokespecial 56, 3) := by decide +kernel
theorem dJ2_getChar_3b067_27 : decode cJ2_getChar_3b067 27 = .ok (.athrow, 1) := by decide +kernel
theorem dJ2_getChar_3b067_28 : decode cJ2_getChar_3b067 28 = .ok (.iload_n 1, 1) := by decide +kernel
theorem dJ2_getChar_3b067_29 : decode cJ2_getChar_3b067 29 = .ok (.iconst 1, 1) := by decide +kernel
theorem dJ2_getChar_3b067_30 : decode cJ2_getChar_3b067 30 = .ok (.ishl, 1) := by decide +kernel
theorem dJ2_getChar_3b067_31 : decode cJ2_getChar_3b067 31 = .ok (.istore_n 1, 1) := by decide +kernel
theorem dJ2_getChar_3b067_32 : decode cJ2_getChar_3b067 32 = .ok (.aload_n 0, 1) := by decide +kernel
theorem dJ2_getChar_3b067_33 : decode cJ2_getChar_3b067 33 = .ok (.iload_n 1, 1) := by decide +kernel
theorem dJ2_getChar_3b067_34 : decode cJ2_getChar_3b067 34 = .ok (.iinc 1 1, 3) := by decide +kernel
theorem dJ2_getChar_3b067_37 : decode cJ2_getChar_3b067 37 = .ok (.baload, 1) := by decide +kernel
theorem dJ2_getChar_3b067_38 : decode cJ2_getChar_3b067 38 = .ok (.sipush 255, 3) := by decide +kernel
theorem dJ2_getChar_3b067_41 : decode cJ2_getChar_3b067 41 = .ok (.iand, 1) := by decide +kernel
theorem dJ2_getChar_3b067_42 : decode cJ2_getChar_3b067 42 = .ok (.getstatic 59, 3) := by decide +kernel
theorem dJ2_getChar_3b067_45 : decode cJ2_getChar_3b067 45 = .ok (.ishl, 1) := by decide +kernel
theorem dJ2_getChar_3b067_46 : decode cJ2_getChar_3b067 46 = .ok (.aload_n 0, 1) := by decide +kernel
theorem dJ2_getChar_3b067_47 : decode cJ2_getChar_3b067 47 = .ok (.iload_n 1, 1) := by decide +kernel
theorem dJ2_getChar_3b067_48 : decode cJ2_getChar_3b067 48 = .ok (.baload, 1) := by decide +kernel
theorem dJ2_getChar_3b067_49 : decode cJ2_getChar_3b067 49 = .ok (.sipush 255, 3) := by decide +kernel
theorem dJ2_getChar_3b067_52 : decode cJ2_getChar_3b067 52 = .ok (.iand, 1) := by decide +kernel
theorem dJ2_getChar_3b067_53 : decode cJ2_getChar_3b067 53 = .ok (.getstatic 63, 3) := by decide +kernel
theorem dJ2_getChar_3b067_56 : decode cJ2_getChar_3b067 56 = .ok (.ishl, 1) := by decide +kernel
theorem dJ2_getChar_3b067_57 : decode cJ2_getChar_3b067 57 = .ok (.ior, 1) := by decide +kernel
theorem dJ2_getChar_3b067_58 : decode cJ2_getChar_3b067 58 = .ok (.i2c, 1) := by decide +kernel
theorem dJ2_getChar_3b067_59 : decode cJ2_getChar_3b067 59 = .ok (.ireturn, 1) := by decide +kernel
theorem dJ2_length_9d52b_0 : decode cJ2_length_9d52b 0 = .ok (.aload_n 0, 1) := by decide +kernel
theorem dJ2_length_9d52b_1 : decode cJ2_length_9d52b 1 = .ok (.arraylength, 1) := by decide +kernel
theorem dJ2_length_9d52b_2 : decode cJ2_length_9d52b 2 = .ok (.iconst 1, 1) := by decide +kernel
theorem dJ2_length_9d52b_3 : decode cJ2_length_9d52b 3 = .ok (.ishr, 1) := by decide +kernel
theorem dJ2_length_9d52b_4 : decode cJ2_length_9d52b 4 = .ok (.ireturn, 1) := by decide +kernel
theorem dJ2_charAt_3b067_0 : decode cJ2_charAt_3b067 0 = .ok (.iload_n 1, 1) := by decide +kernel
theorem dJ2_charAt_3b067_1 : decode cJ2_charAt_3b067 1 = .ok (.aload_n 0, 1) := by decide +kernel
theorem dJ2_charAt_3b067_2 : decode cJ2_charAt_3b067 2 = .ok (.invokestatic 67, 3) := by decide +kernel
theorem dJ2_charAt_3b067_5 : decode cJ2_charAt_3b067 5 = .ok (.aload_n 0, 1) := by decide +kernel
theorem dJ2_charAt_3b067_6 : decode cJ2_charAt_3b067 6 = .ok (.iload_n 1, 1) := by decide +kernel
theorem dJ2_charAt_3b067_7 : decode cJ2_charAt_3b067 7 = .ok (.invokestatic 71, 3) := by decide +kernel
theorem dJ2_charAt_3b067_10 : decode cJ2_charAt_3b067 10 = .ok (.ireturn, 1) := by decide +kernel
theorem dJ2_checkIndex_2214a_0 : decode cJ2_checkIndex_2214a 0 = .ok (.iload_n 0, 1) := by decide +kernel
theorem dJ2_checkIndex_2214a_1 : decode cJ2_checkIndex_2214a 1 = .ok (.aload_n 1, 1) := by decide +kernel
theorem dJ2_checkIndex_2214a_2 : decode cJ2_checkIndex_2214a 2 = .ok (.invokestatic 48, 3) := by decide +kernel
theorem dJ2_checkIndex_2214a_5 : decode cJ2_checkIndex_2214a 5 = .ok (.invokestatic 414, 3) := by decide +kernel
theorem dJ2_checkIndex_2214a_8 : decode cJ2_checkIndex_2214a 8 = .ok (.return_, 1) := by decide +kernel
theorem dJ7_fill_53178_0 : decode cJ7_fill_53178 0 = .ok (.iconst 0, 1) := by decide +kernel
theorem dJ7_fill_53178_1 : decode cJ7_fill_53178 1 = .ok (.istore_n 2, 1) := by decide +kernel
theorem dJ7_fill_53178_2 : decode cJ7_fill_53178 2 = .ok (.aload_n 0, 1) := by decide +kernel
theorem dJ7_fill_53178_3 : decode cJ7_fill_53178 3 = .ok (.arraylength, 1) := by decide +kernel
theorem dJ7_fill_53178_4 : decode cJ7_fill_53178 4 = .ok (.istore_n 3, 1) := by decide +kernel
theorem dJ7_fill_53178_5 : decode cJ7_fill_53178 5 = .ok (.iload_n 2, 1) := by decide +kernel
theorem dJ7_fill_53178_6 : decode cJ7_fill_53178 6 = .ok (.iload_n 3, 1) := by decide +kernel
theorem dJ7_fill_53178_7 : decode cJ7_fill_53178 7 = .ok (.if_icmp .ge 13, 3) := by decide +kernel
theorem dJ7_fill_53178_10 : decode cJ7_fill_53178 10 = .ok (.aload_n 0, 1) := by decide +kernel
theorem dJ7_fill_53178_11 : decode cJ7_fill_53178 11 = .ok (.iload_n 2, 1) := by decide +kernel
theorem dJ7_fill_53178_12 : decode cJ7_fill_53178 12 = .ok (.iload_n 1, 1) := by decide +kernel
theorem dJ7_fill_53178_13 : decode cJ7_fill_53178 13 = .ok (.iastore, 1) := by decide +kernel
theorem dJ7_fill_53178_14 : decode cJ7_fill_53178 14 = .ok (.iinc 2 1, 3) := by decide +kernel
theorem dJ7_fill_53178_17 : decode cJ7_fill_53178 17 = .ok (.goto (-12), 3) := by decide +kernel
theorem dJ7_fill_53178_20 : decode cJ7_fill_53178 20 = .ok (.return_, 1) := by decide +kernel
theorem dJ3_checkIndex_8e157_0 : decode cJ3_checkIndex_8e157 0 = .ok (.iload_n 0, 1) := by decide +kernel
theorem dJ3_checkIndex_8e157_1 : decode cJ3_checkIndex_8e157 1 = .ok (.ifCond .lt 8, 3) := by decide +kernel
theorem dJ3_checkIndex_8e157_4 : decode cJ3_checkIndex_8e157 4 = .ok (.iload_n 0, 1) := by decide +kernel
theorem dJ3_checkIndex_8e157_5 : decode cJ3_checkIndex_8e157 5 = .ok (.iload_n 1, 1) := by decide +kernel
theorem dJ3_checkIndex_8e157_6 : decode cJ3_checkIndex_8e157 6 = .ok (.if_icmp .lt 10, 3) := by decide +kernel
theorem dJ3_checkIndex_8e157_9 : decode cJ3_checkIndex_8e157 9 = .ok (.aload_n 2, 1) := by decide +kernel
theorem dJ3_checkIndex_8e157_10 : decode cJ3_checkIndex_8e157 10 = .ok (.iload_n 0, 1) := by decide +kernel
theorem dJ3_checkIndex_8e157_11 : decode cJ3_checkIndex_8e157 11 = .ok (.iload_n 1, 1) := by decide +kernel
theorem dJ3_checkIndex_8e157_12 : decode cJ3_checkIndex_8e157 12 = .ok (.invokestatic 95, 3) := by decide +kernel
theorem dJ3_checkIndex_8e157_15 : decode cJ3_checkIndex_8e157 15 = .ok (.athrow, 1) := by decide +kernel
theorem dJ3_checkIndex_8e157_16 : decode cJ3_checkIndex_8e157 16 = .ok (.iload_n 0, 1) := by decide +kernel
theorem dJ3_checkIndex_8e157_17 : decode cJ3_checkIndex_8e157 17 = .ok (.ireturn, 1) := by decide +kernel
abbrev vwCl : List vw_C := [(RJ0, TJ0, 2), (RJx00060, TJx00060, 6), (RX1, TX1, 5), (RX2, TX2, 1), (RX4, TX4, 6), (RX5, TX5, 2), (RX6, TX6, 3), (RX7, TX7, 2), (RX8, TX8, 9), (RX9, TX9, 4), (RX10, TX10, 2), (RX11, TX11, 3), (RX12, TX12, 15), (RX13, TX13, 25)]
