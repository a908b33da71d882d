/-! ===== BEGIN printed: names, fields, word lists, decode rows ===== -/
def RX0 : String := "CustomsShed$AuditQueue"
def TX0 : u_T := fun k => match k with
  | 0 => ("CustomsShed$AuditQueue", "ids", "[I", true)
  | _ => ("CustomsShed$AuditQueue", "length", "I", false)
def tyX0 : Nat → FieldType := fun k => match k with
  | 0 => .array .int
  | _ => .int
abbrev wsX00 : List Cond := u_ws RX0 TX0 2
theorem nmX0 : ∀ a, a < 2 → ∀ b, b < 2 → a ≠ b → (TX0 a).2.1 ≠ (TX0 b).2.1 := by decide +kernel
theorem tyX0_ok : ∀ k, k < 2 → parseFieldDescriptor (TX0 k).2.2.1 = some (tyX0 k) := by decide +kernel
abbrev cX0_init : ByteArray := prog_2_method_1_code
def yX0_init : MethodName := ⟨RX0, "<init>", "()V"⟩
abbrev cX0_placeOf : ByteArray := prog_2_method_2_code
def yX0_placeOf : MethodName := ⟨RX0, "placeOf", "(I)I"⟩
abbrev cX0_append : ByteArray := prog_2_method_3_code
def yX0_append : MethodName := ⟨RX0, "append", "(I)I"⟩
abbrev cX0_remove : ByteArray := prog_2_method_4_code
def yX0_remove : MethodName := ⟨RX0, "remove", "(I)V"⟩
abbrev cX0_copyFrom : ByteArray := prog_2_method_5_code
def yX0_copyFrom : MethodName := ⟨RX0, "copyFrom", "(LCustomsShed$AuditQueue;)V"⟩
def RX1 : String := "CustomsShed$CommandText"
def TX1 : u_T := fun k => match k with
  | 0 => ("CustomsShed$CommandText", "characters", "[C", true)
  | 1 => ("CustomsShed$CommandText", "numbers", "[I", true)
  | 2 => ("CustomsShed$CommandText", "length", "I", false)
  | 3 => ("CustomsShed$CommandText", "cursor", "I", false)
  | 4 => ("CustomsShed$CommandText", "verb", "I", false)
  | 5 => ("CustomsShed$CommandText", "kind", "C", false)
  | _ => ("CustomsShed$CommandText", "numbersRead", "I", false)
def tyX1 : Nat → FieldType := fun k => match k with
  | 0 => .array .char
  | 1 => .array .int
  | 2 => .int
  | 3 => .int
  | 4 => .int
  | 5 => .char
  | _ => .int
abbrev wsX10 : List Cond := u_ws RX1 TX1 7
theorem nmX1 : ∀ a, a < 7 → ∀ b, b < 7 → a ≠ b → (TX1 a).2.1 ≠ (TX1 b).2.1 := by decide +kernel
theorem tyX1_ok : ∀ k, k < 7 → parseFieldDescriptor (TX1 k).2.2.1 = some (tyX1 k) := by decide +kernel
abbrev cX1_init : ByteArray := prog_3_method_1_code
def yX1_init : MethodName := ⟨RX1, "<init>", "()V"⟩
abbrev cX1_formOf : ByteArray := prog_3_method_2_code
def yX1_formOf : MethodName := ⟨RX1, "formOf", "(I)Ljava/lang/String;"⟩
abbrev cX1_append : ByteArray := prog_3_method_3_code
def yX1_append : MethodName := ⟨RX1, "append", "(C)Z"⟩
abbrev cX1_clear : ByteArray := prog_3_method_4_code
def yX1_clear : MethodName := ⟨RX1, "clear", "()V"⟩
abbrev cX1_rewind : ByteArray := prog_3_method_5_code
def yX1_rewind : MethodName := ⟨RX1, "rewind", "()V"⟩
abbrev cX1_skipSemicolon : ByteArray := prog_3_method_6_code
def yX1_skipSemicolon : MethodName := ⟨RX1, "skipSemicolon", "()V"⟩
abbrev cX1_countCommands : ByteArray := prog_3_method_7_code
def yX1_countCommands : MethodName := ⟨RX1, "countCommands", "()I"⟩
abbrev cX1_readCommand : ByteArray := prog_3_method_8_code
def yX1_readCommand : MethodName := ⟨RX1, "readCommand", "()Z"⟩
abbrev cX1_readForm : ByteArray := prog_3_method_9_code
def yX1_readForm : MethodName := ⟨RX1, "readForm", "(Ljava/lang/String;)Z"⟩
abbrev cX1_readCharacter : ByteArray := prog_3_method_10_code
def yX1_readCharacter : MethodName := ⟨RX1, "readCharacter", "(C)Z"⟩
abbrev cX1_readNumber : ByteArray := prog_3_method_11_code
def yX1_readNumber : MethodName := ⟨RX1, "readNumber", "()Z"⟩
abbrev cX1_isDigit : ByteArray := prog_3_method_12_code
def yX1_isDigit : MethodName := ⟨RX1, "isDigit", "(C)Z"⟩
def RX2 : String := "CustomsShed$History"
def TX2 : u_T := fun k => match k with
  | 0 => ("CustomsShed$History", "states", "[LCustomsShed$Shed;", true)
  | 1 => ("CustomsShed$History", "cursor", "I", false)
  | _ => ("CustomsShed$History", "count", "I", false)
def tyX2 : Nat → FieldType := fun k => match k with
  | 0 => .array (.object "CustomsShed$Shed")
  | 1 => .int
  | _ => .int
abbrev wsX20 : List Cond := u_ws RX2 TX2 3
theorem nmX2 : ∀ a, a < 3 → ∀ b, b < 3 → a ≠ b → (TX2 a).2.1 ≠ (TX2 b).2.1 := by decide +kernel
theorem tyX2_ok : ∀ k, k < 3 → parseFieldDescriptor (TX2 k).2.2.1 = some (tyX2 k) := by decide +kernel
abbrev cX2_init : ByteArray := prog_4_method_1_code
def yX2_init : MethodName := ⟨RX2, "<init>", "()V"⟩
abbrev cX2_prepare : ByteArray := prog_4_method_2_code
def yX2_prepare : MethodName := ⟨RX2, "prepare", "(LCustomsShed$Shed;)V"⟩
abbrev cX2_keepPrepared : ByteArray := prog_4_method_3_code
def yX2_keepPrepared : MethodName := ⟨RX2, "keepPrepared", "()V"⟩
abbrev cX2_takeBack : ByteArray := prog_4_method_4_code
def yX2_takeBack : MethodName := ⟨RX2, "takeBack", "(LCustomsShed$Shed;)V"⟩
abbrev cX2_undoLatest : ByteArray := prog_4_method_5_code
def yX2_undoLatest : MethodName := ⟨RX2, "undoLatest", "(LCustomsShed$Shed;)V"⟩
abbrev cX2_forget : ByteArray := prog_4_method_6_code
def yX2_forget : MethodName := ⟨RX2, "forget", "()V"⟩
def RX3 : String := "CustomsShed$Lots"
def TX3 : u_T := fun k => match k with
  | 0 => ("CustomsShed$Lots", "ids", "[I", true)
  | 1 => ("CustomsShed$Lots", "kinds", "[C", true)
  | 2 => ("CustomsShed$Lots", "quantities", "[I", true)
  | 3 => ("CustomsShed$Lots", "prices", "[I", true)
  | 4 => ("CustomsShed$Lots", "bays", "[I", true)
  | 5 => ("CustomsShed$Lots", "underSeal", "[Z", true)
  | 6 => ("CustomsShed$Lots", "damp", "[Z", true)
  | 7 => ("CustomsShed$Lots", "count", "I", false)
  | _ => ("CustomsShed$Lots", "nextId", "I", false)
def tyX3 : Nat → FieldType := fun k => match k with
  | 0 => .array .int
  | 1 => .array .char
  | 2 => .array .int
  | 3 => .array .int
  | 4 => .array .int
  | 5 => .array .boolean
  | 6 => .array .boolean
  | 7 => .int
  | _ => .int
abbrev wsX30 : List Cond := u_ws RX3 TX3 9
theorem nmX3 : ∀ a, a < 9 → ∀ b, b < 9 → a ≠ b → (TX3 a).2.1 ≠ (TX3 b).2.1 := by decide +kernel
theorem tyX3_ok : ∀ k, k < 9 → parseFieldDescriptor (TX3 k).2.2.1 = some (tyX3 k) := by decide +kernel
abbrev cX3_init : ByteArray := prog_5_method_1_code
def yX3_init : MethodName := ⟨RX3, "<init>", "()V"⟩
abbrev cX3_slotWith : ByteArray := prog_5_method_2_code
def yX3_slotWith : MethodName := ⟨RX3, "slotWith", "(I)I"⟩
abbrev cX3_slotAt : ByteArray := prog_5_method_3_code
def yX3_slotAt : MethodName := ⟨RX3, "slotAt", "(I)I"⟩
abbrev cX3_valueOf : ByteArray := prog_5_method_4_code
def yX3_valueOf : MethodName := ⟨RX3, "valueOf", "(I)I"⟩
abbrev cX3_sumOfValues : ByteArray := prog_5_method_5_code
def yX3_sumOfValues : MethodName := ⟨RX3, "sumOfValues", "()I"⟩
abbrev cX3_quantityOf : ByteArray := prog_5_method_6_code
def yX3_quantityOf : MethodName := ⟨RX3, "quantityOf", "(C)I"⟩
abbrev cX3_slotByValue : ByteArray := prog_5_method_7_code
def yX3_slotByValue : MethodName := ⟨RX3, "slotByValue", "(I)I"⟩
abbrev cX3_countAhead : ByteArray := prog_5_method_8_code
def yX3_countAhead : MethodName := ⟨RX3, "countAhead", "(I)I"⟩
abbrev cX3_countSealed : ByteArray := prog_5_method_9_code
def yX3_countSealed : MethodName := ⟨RX3, "countSealed", "()I"⟩
abbrev cX3_countDamp : ByteArray := prog_5_method_10_code
def yX3_countDamp : MethodName := ⟨RX3, "countDamp", "()I"⟩
abbrev cX3_append : ByteArray := prog_5_method_11_code
def yX3_append : MethodName := ⟨RX3, "append", "(CIII)I"⟩
abbrev cX3_remove : ByteArray := prog_5_method_12_code
def yX3_remove : MethodName := ⟨RX3, "remove", "(I)V"⟩
abbrev cX3_takeSlot : ByteArray := prog_5_method_13_code
def yX3_takeSlot : MethodName := ⟨RX3, "takeSlot", "(LCustomsShed$Lots;II)V"⟩
abbrev cX3_copyFrom : ByteArray := prog_5_method_14_code
def yX3_copyFrom : MethodName := ⟨RX3, "copyFrom", "(LCustomsShed$Lots;)V"⟩
abbrev cX3_baysOfDamp : ByteArray := prog_5_method_15_code
def yX3_baysOfDamp : MethodName := ⟨RX3, "baysOfDamp", "()I"⟩
abbrev cX3_baysOfOpen : ByteArray := prog_5_method_16_code
def yX3_baysOfOpen : MethodName := ⟨RX3, "baysOfOpen", "()I"⟩
abbrev cX3_spreadFrom : ByteArray := prog_5_method_17_code
def yX3_spreadFrom : MethodName := ⟨RX3, "spreadFrom", "(I)V"⟩
abbrev cX3_reachByQueue : ByteArray := prog_5_method_18_code
def yX3_reachByQueue : MethodName := ⟨RX3, "reachByQueue", "([I)I"⟩
abbrev cX3_reachByStretches : ByteArray := prog_5_method_19_code
def yX3_reachByStretches : MethodName := ⟨RX3, "reachByStretches", "()I"⟩
def RX4 : String := "CustomsShed$Shed"
def TX4 : u_T := fun k => match k with
  | 0 => ("CustomsShed$Shed", "lots", "LCustomsShed$Lots;", true)
  | 1 => ("CustomsShed$Shed", "tariff", "LCustomsShed$Tariff;", true)
  | 2 => ("CustomsShed$Shed", "queue", "LCustomsShed$AuditQueue;", true)
  | 3 => ("CustomsShed$Shed", "coins", "I", false)
  | 4 => ("CustomsShed$Shed", "coinsTaken", "I", false)
  | 5 => ("CustomsShed$Shed", "daysPassed", "I", false)
  | _ => ("CustomsShed$Shed", "destroyed", "I", false)
def tyX4 : Nat → FieldType := fun k => match k with
  | 0 => .object "CustomsShed$Lots"
  | 1 => .object "CustomsShed$Tariff"
  | 2 => .object "CustomsShed$AuditQueue"
  | 3 => .int
  | 4 => .int
  | 5 => .int
  | _ => .int
abbrev wsX40 : List Cond := u_ws RX4 TX4 7
theorem nmX4 : ∀ a, a < 7 → ∀ b, b < 7 → a ≠ b → (TX4 a).2.1 ≠ (TX4 b).2.1 := by decide +kernel
theorem tyX4_ok : ∀ k, k < 7 → parseFieldDescriptor (TX4 k).2.2.1 = some (tyX4 k) := by decide +kernel
abbrev cX4_init : ByteArray := prog_6_method_1_code
def yX4_init : MethodName := ⟨RX4, "<init>", "()V"⟩
abbrev cX4_copyFrom : ByteArray := prog_6_method_2_code
def yX4_copyFrom : MethodName := ⟨RX4, "copyFrom", "(LCustomsShed$Shed;)V"⟩
abbrev cX4_takeIn : ByteArray := prog_6_method_3_code
def yX4_takeIn : MethodName := ⟨RX4, "takeIn", "(CIII)I"⟩
abbrev cX4_sealLot : ByteArray := prog_6_method_4_code
def yX4_sealLot : MethodName := ⟨RX4, "sealLot", "(I)I"⟩
abbrev cX4_openLot : ByteArray := prog_6_method_5_code
def yX4_openLot : MethodName := ⟨RX4, "openLot", "(I)I"⟩
abbrev cX4_wetLot : ByteArray := prog_6_method_6_code
def yX4_wetLot : MethodName := ⟨RX4, "wetLot", "(I)I"⟩
abbrev cX4_moveLot : ByteArray := prog_6_method_7_code
def yX4_moveLot : MethodName := ⟨RX4, "moveLot", "(II)I"⟩
abbrev cX4_queueLot : ByteArray := prog_6_method_8_code
def yX4_queueLot : MethodName := ⟨RX4, "queueLot", "(I)I"⟩
abbrev cX4_auditFirst : ByteArray := prog_6_method_9_code
def yX4_auditFirst : MethodName := ⟨RX4, "auditFirst", "()I"⟩
abbrev cX4_takeCoins : ByteArray := prog_6_method_10_code
def yX4_takeCoins : MethodName := ⟨RX4, "takeCoins", "(I)I"⟩
abbrev cX4_releaseLot : ByteArray := prog_6_method_11_code
def yX4_releaseLot : MethodName := ⟨RX4, "releaseLot", "(I)I"⟩
abbrev cX4_letLeave : ByteArray := prog_6_method_12_code
def yX4_letLeave : MethodName := ⟨RX4, "letLeave", "(I)V"⟩
abbrev cX4_letPass : ByteArray := prog_6_method_13_code
def yX4_letPass : MethodName := ⟨RX4, "letPass", "(I)I"⟩
abbrev cX4_letOneDayPass : ByteArray := prog_6_method_14_code
def yX4_letOneDayPass : MethodName := ⟨RX4, "letOneDayPass", "()V"⟩
abbrev cX4_dutyOf : ByteArray := prog_6_method_15_code
def yX4_dutyOf : MethodName := ⟨RX4, "dutyOf", "(I)I"⟩
abbrev cX4_dutyInOrderOfIds : ByteArray := prog_6_method_16_code
def yX4_dutyInOrderOfIds : MethodName := ⟨RX4, "dutyInOrderOfIds", "()I"⟩
abbrev cX4_dutyBayByBay : ByteArray := prog_6_method_17_code
def yX4_dutyBayByBay : MethodName := ⟨RX4, "dutyBayByBay", "()I"⟩
abbrev cX4_dutiesAgree : ByteArray := prog_6_method_18_code
def yX4_dutiesAgree : MethodName := ⟨RX4, "dutiesAgree", "()Z"⟩
abbrev cX4_countReleases : ByteArray := prog_6_method_19_code
def yX4_countReleases : MethodName := ⟨RX4, "countReleases", "([I)I"⟩
abbrev cX4_sortDutiesInto : ByteArray := prog_6_method_20_code
def yX4_sortDutiesInto : MethodName := ⟨RX4, "sortDutiesInto", "([I)V"⟩
abbrev cX4_perform : ByteArray := prog_6_method_21_code
def yX4_perform : MethodName := ⟨RX4, "perform", "(LCustomsShed$CommandText;)I"⟩
def RX5 : String := "CustomsShed$Tariff"
def TX5 : u_T := fun k => match k with
  | 0 => ("CustomsShed$Tariff", "thresholds", "[I", true)
  | 1 => ("CustomsShed$Tariff", "rates", "[I", true)
  | _ => ("CustomsShed$Tariff", "count", "I", false)
def tyX5 : Nat → FieldType := fun k => match k with
  | 0 => .array .int
  | 1 => .array .int
  | _ => .int
abbrev wsX50 : List Cond := u_ws RX5 TX5 3
theorem nmX5 : ∀ a, a < 3 → ∀ b, b < 3 → a ≠ b → (TX5 a).2.1 ≠ (TX5 b).2.1 := by decide +kernel
theorem tyX5_ok : ∀ k, k < 3 → parseFieldDescriptor (TX5 k).2.2.1 = some (tyX5 k) := by decide +kernel
abbrev cX5_init : ByteArray := prog_7_method_1_code
def yX5_init : MethodName := ⟨RX5, "<init>", "()V"⟩
abbrev cX5_indexOf : ByteArray := prog_7_method_2_code
def yX5_indexOf : MethodName := ⟨RX5, "indexOf", "(I)I"⟩
abbrev cX5_insert : ByteArray := prog_7_method_3_code
def yX5_insert : MethodName := ⟨RX5, "insert", "(II)I"⟩
abbrev cX5_remove : ByteArray := prog_7_method_4_code
def yX5_remove : MethodName := ⟨RX5, "remove", "(I)I"⟩
abbrev cX5_dutyByParts : ByteArray := prog_7_method_5_code
def yX5_dutyByParts : MethodName := ⟨RX5, "dutyByParts", "(I)I"⟩
abbrev cX5_dutyByCoins : ByteArray := prog_7_method_6_code
def yX5_dutyByCoins : MethodName := ⟨RX5, "dutyByCoins", "(I)I"⟩
abbrev cX5_copyFrom : ByteArray := prog_7_method_7_code
def yX5_copyFrom : MethodName := ⟨RX5, "copyFrom", "(LCustomsShed$Tariff;)V"⟩
def RX6 : String := "CustomsShed"
def TX6 : u_T := fun k => match k with
  | 0 => ("CustomsShed", "shed", "LCustomsShed$Shed;", true)
  | 1 => ("CustomsShed", "forecast", "LCustomsShed$Shed;", true)
  | 2 => ("CustomsShed", "history", "LCustomsShed$History;", true)
  | 3 => ("CustomsShed", "text", "LCustomsShed$CommandText;", true)
  | 4 => ("CustomsShed", "output", "Ljava/lang/StringBuilder;", true)
  | 5 => ("CustomsShed", "dutyRow", "[I", true)
  | 6 => ("CustomsShed", "bayRow", "[I", true)
  | 7 => ("CustomsShed", "saved", "LCustomsShed$Shed;", false)
  | 8 => ("CustomsShed", "keptErrorPosition", "I", false)
  | _ => ("CustomsShed", "keptFailedCommand", "I", false)
def tyX6 : Nat → FieldType := fun k => match k with
  | 0 => .object "CustomsShed$Shed"
  | 1 => .object "CustomsShed$Shed"
  | 2 => .object "CustomsShed$History"
  | 3 => .object "CustomsShed$CommandText"
  | 4 => .object "java/lang/StringBuilder"
  | 5 => .array .int
  | 6 => .array .int
  | 7 => .object "CustomsShed$Shed"
  | 8 => .int
  | _ => .int
abbrev wsX60 : List Cond := u_ws RX6 TX6 10
theorem nmX6 : ∀ a, a < 10 → ∀ b, b < 10 → a ≠ b → (TX6 a).2.1 ≠ (TX6 b).2.1 := by decide +kernel
theorem tyX6_ok : ∀ k, k < 10 → parseFieldDescriptor (TX6 k).2.2.1 = some (tyX6 k) := by decide +kernel
abbrev cX6_init : ByteArray := prog_1_method_1_code
def yX6_init : MethodName := ⟨RX6, "<init>", "()V"⟩
abbrev cX6_addLot : ByteArray := prog_1_method_2_code
def yX6_addLot : MethodName := ⟨RX6, "addLot", "(CIII)I"⟩
abbrev cX6_seal : ByteArray := prog_1_method_3_code
def yX6_seal : MethodName := ⟨RX6, "seal", "(I)I"⟩
abbrev cX6_open : ByteArray := prog_1_method_4_code
def yX6_open : MethodName := ⟨RX6, "open", "(I)I"⟩
abbrev cX6_wet : ByteArray := prog_1_method_5_code
def yX6_wet : MethodName := ⟨RX6, "wet", "(I)I"⟩
abbrev cX6_move : ByteArray := prog_1_method_6_code
def yX6_move : MethodName := ⟨RX6, "move", "(II)I"⟩
abbrev cX6_lotCount : ByteArray := prog_1_method_7_code
def yX6_lotCount : MethodName := ⟨RX6, "lotCount", "()I"⟩
abbrev cX6_lot : ByteArray := prog_1_method_8_code
def yX6_lot : MethodName := ⟨RX6, "lot", "(I)I"⟩
abbrev cX6_quantity : ByteArray := prog_1_method_10_code
def yX6_quantity : MethodName := ⟨RX6, "quantity", "(I)I"⟩
abbrev cX6_price : ByteArray := prog_1_method_11_code
def yX6_price : MethodName := ⟨RX6, "price", "(I)I"⟩
abbrev cX6_value : ByteArray := prog_1_method_12_code
def yX6_value : MethodName := ⟨RX6, "value", "(I)I"⟩
abbrev cX6_bay : ByteArray := prog_1_method_13_code
def yX6_bay : MethodName := ⟨RX6, "bay", "(I)I"⟩
abbrev cX6_isSealed : ByteArray := prog_1_method_14_code
def yX6_isSealed : MethodName := ⟨RX6, "isSealed", "(I)Z"⟩
abbrev cX6_isDamp : ByteArray := prog_1_method_15_code
def yX6_isDamp : MethodName := ⟨RX6, "isDamp", "(I)Z"⟩
abbrev cX6_lotAt : ByteArray := prog_1_method_16_code
def yX6_lotAt : MethodName := ⟨RX6, "lotAt", "(I)I"⟩
abbrev cX6_nextEmptyBay : ByteArray := prog_1_method_17_code
def yX6_nextEmptyBay : MethodName := ⟨RX6, "nextEmptyBay", "(I)I"⟩
abbrev cX6_quantityOfKind : ByteArray := prog_1_method_18_code
def yX6_quantityOfKind : MethodName := ⟨RX6, "quantityOfKind", "(C)I"⟩
abbrev cX6_lotByValue : ByteArray := prog_1_method_19_code
def yX6_lotByValue : MethodName := ⟨RX6, "lotByValue", "(I)I"⟩
abbrev cX6_addStep : ByteArray := prog_1_method_20_code
def yX6_addStep : MethodName := ⟨RX6, "addStep", "(II)I"⟩
abbrev cX6_removeStep : ByteArray := prog_1_method_21_code
def yX6_removeStep : MethodName := ⟨RX6, "removeStep", "(I)I"⟩
abbrev cX6_stepCount : ByteArray := prog_1_method_22_code
def yX6_stepCount : MethodName := ⟨RX6, "stepCount", "()I"⟩
abbrev cX6_threshold : ByteArray := prog_1_method_23_code
def yX6_threshold : MethodName := ⟨RX6, "threshold", "(I)I"⟩
abbrev cX6_rate : ByteArray := prog_1_method_24_code
def yX6_rate : MethodName := ⟨RX6, "rate", "(I)I"⟩
abbrev cX6_dutyOn : ByteArray := prog_1_method_25_code
def yX6_dutyOn : MethodName := ⟨RX6, "dutyOn", "(I)I"⟩
abbrev cX6_dutyOnByCoins : ByteArray := prog_1_method_26_code
def yX6_dutyOnByCoins : MethodName := ⟨RX6, "dutyOnByCoins", "(I)I"⟩
abbrev cX6_duty : ByteArray := prog_1_method_27_code
def yX6_duty : MethodName := ⟨RX6, "duty", "(I)I"⟩
abbrev cX6_totalDuty : ByteArray := prog_1_method_28_code
def yX6_totalDuty : MethodName := ⟨RX6, "totalDuty", "()I"⟩
abbrev cX6_totalDutyByBays : ByteArray := prog_1_method_29_code
def yX6_totalDutyByBays : MethodName := ⟨RX6, "totalDutyByBays", "()I"⟩
abbrev cX6_passDays : ByteArray := prog_1_method_30_code
def yX6_passDays : MethodName := ⟨RX6, "passDays", "(I)I"⟩
abbrev cX6_day : ByteArray := prog_1_method_31_code
def yX6_day : MethodName := ⟨RX6, "day", "()I"⟩
abbrev cX6_dampCount : ByteArray := prog_1_method_32_code
def yX6_dampCount : MethodName := ⟨RX6, "dampCount", "()I"⟩
abbrev cX6_dampAfter : ByteArray := prog_1_method_33_code
def yX6_dampAfter : MethodName := ⟨RX6, "dampAfter", "(I)I"⟩
abbrev cX6_dampReach : ByteArray := prog_1_method_34_code
def yX6_dampReach : MethodName := ⟨RX6, "dampReach", "()I"⟩
abbrev cX6_dampReachByStretches : ByteArray := prog_1_method_35_code
def yX6_dampReachByStretches : MethodName := ⟨RX6, "dampReachByStretches", "()I"⟩
abbrev cX6_destroyedCount : ByteArray := prog_1_method_36_code
def yX6_destroyedCount : MethodName := ⟨RX6, "destroyedCount", "()I"⟩
abbrev cX6_enqueue : ByteArray := prog_1_method_37_code
def yX6_enqueue : MethodName := ⟨RX6, "enqueue", "(I)I"⟩
abbrev cX6_audit : ByteArray := prog_1_method_38_code
def yX6_audit : MethodName := ⟨RX6, "audit", "()I"⟩
abbrev cX6_queueLength : ByteArray := prog_1_method_39_code
def yX6_queueLength : MethodName := ⟨RX6, "queueLength", "()I"⟩
abbrev cX6_queued : ByteArray := prog_1_method_40_code
def yX6_queued : MethodName := ⟨RX6, "queued", "(I)I"⟩
abbrev cX6_deposit : ByteArray := prog_1_method_41_code
def yX6_deposit : MethodName := ⟨RX6, "deposit", "(I)I"⟩
abbrev cX6_release : ByteArray := prog_1_method_42_code
def yX6_release : MethodName := ⟨RX6, "release", "(I)I"⟩
abbrev cX6_bond : ByteArray := prog_1_method_43_code
def yX6_bond : MethodName := ⟨RX6, "bond", "()I"⟩
abbrev cX6_collected : ByteArray := prog_1_method_44_code
def yX6_collected : MethodName := ⟨RX6, "collected", "()I"⟩
abbrev cX6_mostReleases : ByteArray := prog_1_method_45_code
def yX6_mostReleases : MethodName := ⟨RX6, "mostReleases", "()I"⟩
abbrev cX6_meanValue : ByteArray := prog_1_method_46_code
def yX6_meanValue : MethodName := ⟨RX6, "meanValue", "()D"⟩
abbrev cX6_sealedFraction : ByteArray := prog_1_method_47_code
def yX6_sealedFraction : MethodName := ⟨RX6, "sealedFraction", "()F"⟩
abbrev cX6_writeLot : ByteArray := prog_1_method_48_code
def yX6_writeLot : MethodName := ⟨RX6, "writeLot", "(I)I"⟩
abbrev cX6_outputCharacter : ByteArray := prog_1_method_50_code
def yX6_outputCharacter : MethodName := ⟨RX6, "outputCharacter", "(I)C"⟩
abbrev cX6_isConsistent : ByteArray := prog_1_method_51_code
def yX6_isConsistent : MethodName := ⟨RX6, "isConsistent", "()Z"⟩
abbrev cX6_feed : ByteArray := prog_1_method_52_code
def yX6_feed : MethodName := ⟨RX6, "feed", "(C)I"⟩
abbrev cX6_execute : ByteArray := prog_1_method_53_code
def yX6_execute : MethodName := ⟨RX6, "execute", "()I"⟩
abbrev cX6_undo : ByteArray := prog_1_method_56_code
def yX6_undo : MethodName := ⟨RX6, "undo", "()I"⟩
abbrev cX6_undoCount : ByteArray := prog_1_method_57_code
def yX6_undoCount : MethodName := ⟨RX6, "undoCount", "()I"⟩
abbrev cX6_save : ByteArray := prog_1_method_58_code
def yX6_save : MethodName := ⟨RX6, "save", "()I"⟩
abbrev cX6_restore : ByteArray := prog_1_method_59_code
def yX6_restore : MethodName := ⟨RX6, "restore", "()I"⟩
abbrev cX6_settle : ByteArray := prog_1_method_60_code
def yX6_settle : MethodName := ⟨RX6, "settle", "(I)I"⟩
abbrev cX6_throwFor : ByteArray := prog_1_method_61_code
def yX6_throwFor : MethodName := ⟨RX6, "throwFor", "(I)V"⟩
abbrev cX6_checkIndex : ByteArray := prog_1_method_62_code
def yX6_checkIndex : MethodName := ⟨RX6, "checkIndex", "(II)V"⟩
abbrev cX6_checkValue : ByteArray := prog_1_method_63_code
def yX6_checkValue : MethodName := ⟨RX6, "checkValue", "(I)V"⟩
abbrev cX6_slotOf : ByteArray := prog_1_method_64_code
def yX6_slotOf : MethodName := ⟨RX6, "slotOf", "(I)I"⟩
abbrev cX6_performFirst : ByteArray := prog_1_method_65_code
def yX6_performFirst : MethodName := ⟨RX6, "performFirst", "(I)I"⟩
abbrev cX6_isKind : ByteArray := prog_1_method_66_code
def yX6_isKind : MethodName := ⟨RX6, "isKind", "(C)Z"⟩
abbrev cX6_isBay : ByteArray := prog_1_method_67_code
def yX6_isBay : MethodName := ⟨RX6, "isBay", "(I)Z"⟩
abbrev cX6_hasBay : ByteArray := prog_1_method_68_code
def yX6_hasBay : MethodName := ⟨RX6, "hasBay", "(II)Z"⟩
def RX7 : String := "CustomsShedModel"
def TX7 : u_T := fun k => match k with
  | _ => ("", "", "", false)
def tyX7 : Nat → FieldType := fun k => match k with
  | _ => .int
abbrev wsX70 : List Cond := u_ws RX7 TX7 0
theorem nmX7 : ∀ a, a < 0 → ∀ b, b < 0 → a ≠ b → (TX7 a).2.1 ≠ (TX7 b).2.1 := by decide +kernel
theorem tyX7_ok : ∀ k, k < 0 → parseFieldDescriptor (TX7 k).2.2.1 = some (tyX7 k) := by decide +kernel
def RJx145de : String := "java/io/Serializable"
def TJx145de : u_T := fun k => match k with
  | _ => ("", "", "", false)
def tyJx145de : Nat → FieldType := fun k => match k with
  | _ => .int
abbrev wsJx145de0 : List Cond := u_ws RJx145de TJx145de 0
theorem nmJx145de : ∀ a, a < 0 → ∀ b, b < 0 → a ≠ b → (TJx145de a).2.1 ≠ (TJx145de b).2.1 := by decide +kernel
theorem tyJx145de_ok : ∀ k, k < 0 → parseFieldDescriptor (TJx145de k).2.2.1 = some (tyJx145de k) := by decide +kernel
def RJ5 : String := "java/lang/AbstractStringBuilder"
def TJ5 : u_T := fun k => match k with
  | _ => ("", "", "", false)
def tyJ5 : Nat → FieldType := fun k => match k with
  | _ => .int
abbrev wsJ50 : List Cond := u_ws RJ5 TJ5 0
theorem nmJ5 : ∀ a, a < 0 → ∀ b, b < 0 → a ≠ b → (TJ5 a).2.1 ≠ (TJ5 b).2.1 := by decide +kernel
theorem tyJ5_ok : ∀ k, k < 0 → parseFieldDescriptor (TJ5 k).2.2.1 = some (tyJ5 k) := by decide +kernel
abbrev cJ5_init_d00df : ByteArray := prog_11_method_2_code
def yJ5_init_d00df : MethodName := ⟨RJ5, "<init>", "(I)V"⟩
abbrev cJ5_length_8abf5 : ByteArray := prog_11_method_6_code
def yJ5_length_8abf5 : MethodName := ⟨RJ5, "length", "()I"⟩
abbrev cJ5_ensureCapacityInternal_d00df : ByteArray := prog_11_method_9_code
def yJ5_ensureCapacityInternal_d00df : MethodName := ⟨RJ5, "ensureCapacityInternal", "(I)V"⟩
abbrev cJ5_newCapacity_0f7a4 : ByteArray := prog_11_method_10_code
def yJ5_newCapacity_0f7a4 : MethodName := ⟨RJ5, "newCapacity", "(I)I"⟩
abbrev cJ5_inflate_da8c8 : ByteArray := prog_11_method_11_code
def yJ5_inflate_da8c8 : MethodName := ⟨RJ5, "inflate", "()V"⟩
abbrev cJ5_setLength_d00df : ByteArray := prog_11_method_13_code
def yJ5_setLength_d00df : MethodName := ⟨RJ5, "setLength", "(I)V"⟩
abbrev cJ5_charAt_5068e : ByteArray := prog_11_method_14_code
def yJ5_charAt_5068e : MethodName := ⟨RJ5, "charAt", "(I)C"⟩
abbrev cJ5_append_cf1ce : ByteArray := prog_11_method_22_code
def yJ5_append_cf1ce : MethodName := ⟨RJ5, "append", "(Ljava/lang/String;)Ljava/lang/AbstractStringBuilder;"⟩
abbrev cJ5_appendNull_278bc : ByteArray := prog_11_method_26_code
def yJ5_appendNull_278bc : MethodName := ⟨RJ5, "appendNull", "()Ljava/lang/AbstractStringBuilder;"⟩
abbrev cJ5_append_3fe6f : ByteArray := prog_11_method_31_code
def yJ5_append_3fe6f : MethodName := ⟨RJ5, "append", "(C)Ljava/lang/AbstractStringBuilder;"⟩
abbrev cJ5_append_c97b9 : ByteArray := prog_11_method_32_code
def yJ5_append_c97b9 : MethodName := ⟨RJ5, "append", "(I)Ljava/lang/AbstractStringBuilder;"⟩
abbrev cJ5_getValue_6d5f1 : ByteArray := prog_11_method_64_code
def yJ5_getValue_6d5f1 : MethodName := ⟨RJ5, "getValue", "()[B"⟩
abbrev cJ5_isLatin1_aae02 : ByteArray := prog_11_method_68_code
def yJ5_isLatin1_aae02 : MethodName := ⟨RJ5, "isLatin1", "()Z"⟩
abbrev cJ5_inflateIfNeededFor_a7421 : ByteArray := prog_11_method_71_code
def yJ5_inflateIfNeededFor_a7421 : MethodName := ⟨RJ5, "inflateIfNeededFor", "(Ljava/lang/String;)V"⟩
abbrev cJ5_putStringAt_47b60 : ByteArray := prog_11_method_73_code
def yJ5_putStringAt_47b60 : MethodName := ⟨RJ5, "putStringAt", "(ILjava/lang/String;)V"⟩
def RJx2cfe8 : String := "java/lang/Appendable"
def TJx2cfe8 : u_T := fun k => match k with
  | _ => ("", "", "", false)
def tyJx2cfe8 : Nat → FieldType := fun k => match k with
  | _ => .int
abbrev wsJx2cfe80 : List Cond := u_ws RJx2cfe8 TJx2cfe8 0
theorem nmJx2cfe8 : ∀ a, a < 0 → ∀ b, b < 0 → a ≠ b → (TJx2cfe8 a).2.1 ≠ (TJx2cfe8 b).2.1 := by decide +kernel
theorem tyJx2cfe8_ok : ∀ k, k < 0 → parseFieldDescriptor (TJx2cfe8 k).2.2.1 = some (tyJx2cfe8 k) := by decide +kernel
def RJx00060 : String := "java/lang/ArrayIndexOutOfBoundsException"
def TJx00060 : u_T := fun k => match k with
  | 0 => ("java/lang/Throwable", "backtrace", "Ljava/lang/Object;", false)
  | 1 => ("java/lang/Throwable", "detailMessage", "Ljava/lang/String;", false)
  | 2 => ("java/lang/Throwable", "cause", "Ljava/lang/Throwable;", false)
  | 3 => ("java/lang/Throwable", "stackTrace", "[Ljava/lang/StackTraceElement;", false)
  | 4 => ("java/lang/Throwable", "depth", "I", false)
  | _ => ("java/lang/Throwable", "suppressedExceptions", "Ljava/util/List;", false)
def tyJx00060 : Nat → FieldType := fun k => match k with
  | 0 => .object "java/lang/Object"
  | 1 => .object "java/lang/String"
  | 2 => .object "java/lang/Throwable"
  | 3 => .array (.object "java/lang/StackTraceElement")
  | 4 => .int
  | _ => .object "java/util/List"
abbrev wsJx000600 : List Cond := u_ws RJx00060 TJx00060 6
theorem nmJx00060 : ∀ a, a < 6 → ∀ b, b < 6 → a ≠ b → (TJx00060 a).2.1 ≠ (TJx00060 b).2.1 := by decide +kernel
theorem tyJx00060_ok : ∀ k, k < 6 → parseFieldDescriptor (TJx00060 k).2.2.1 = some (tyJx00060 k) := by decide +kernel
abbrev cJx00060_init_a7421 : ByteArray := prog_14_method_2_code
def yJx00060_init_a7421 : MethodName := ⟨RJx00060, "<init>", "(Ljava/lang/String;)V"⟩
abbrev cJx00060_init_d00df : ByteArray := prog_14_method_3_code
def yJx00060_init_d00df : MethodName := ⟨RJx00060, "<init>", "(I)V"⟩
def RJx9f9b0 : String := "java/lang/CharSequence"
def TJx9f9b0 : u_T := fun k => match k with
  | _ => ("", "", "", false)
def tyJx9f9b0 : Nat → FieldType := fun k => match k with
  | _ => .int
abbrev wsJx9f9b00 : List Cond := u_ws RJx9f9b0 TJx9f9b0 0
theorem nmJx9f9b0 : ∀ a, a < 0 → ∀ b, b < 0 → a ≠ b → (TJx9f9b0 a).2.1 ≠ (TJx9f9b0 b).2.1 := by decide +kernel
theorem tyJx9f9b0_ok : ∀ k, k < 0 → parseFieldDescriptor (TJx9f9b0 k).2.2.1 = some (tyJx9f9b0 k) := by decide +kernel
def RJx8e188 : String := "java/lang/Cloneable"
def TJx8e188 : u_T := fun k => match k with
  | _ => ("", "", "", false)
def tyJx8e188 : Nat → FieldType := fun k => match k with
  | _ => .int
abbrev wsJx8e1880 : List Cond := u_ws RJx8e188 TJx8e188 0
theorem nmJx8e188 : ∀ a, a < 0 → ∀ b, b < 0 → a ≠ b → (TJx8e188 a).2.1 ≠ (TJx8e188 b).2.1 := by decide +kernel
theorem tyJx8e188_ok : ∀ k, k < 0 → parseFieldDescriptor (TJx8e188 k).2.2.1 = some (tyJx8e188 k) := by decide +kernel
def RJxb160c : String := "java/lang/Comparable"
def TJxb160c : u_T := fun k => match k with
  | _ => ("", "", "", false)
def tyJxb160c : Nat → FieldType := fun k => match k with
  | _ => .int
abbrev wsJxb160c0 : List Cond := u_ws RJxb160c TJxb160c 0
theorem nmJxb160c : ∀ a, a < 0 → ∀ b, b < 0 → a ≠ b → (TJxb160c a).2.1 ≠ (TJxb160c b).2.1 := by decide +kernel
theorem tyJxb160c_ok : ∀ k, k < 0 → parseFieldDescriptor (TJxb160c k).2.2.1 = some (tyJxb160c k) := by decide +kernel
def RJ6 : String := "java/lang/Integer"
def TJ6 : u_T := fun k => match k with
  | _ => ("", "", "", false)
def tyJ6 : Nat → FieldType := fun k => match k with
  | _ => .int
abbrev wsJ60 : List Cond := u_ws RJ6 TJ6 0
theorem nmJ6 : ∀ a, a < 0 → ∀ b, b < 0 → a ≠ b → (TJ6 a).2.1 ≠ (TJ6 b).2.1 := by decide +kernel
theorem tyJ6_ok : ∀ k, k < 0 → parseFieldDescriptor (TJ6 k).2.2.1 = some (tyJ6 k) := by decide +kernel
abbrev cJ6_getChars_ba4f3 : ByteArray := prog_22_method_12_code
def yJ6_getChars_ba4f3 : MethodName := ⟨RJ6, "getChars", "(II[B)I"⟩
abbrev cJ6_stringSize_0f7a4 : ByteArray := prog_22_method_13_code
def yJ6_stringSize_0f7a4 : MethodName := ⟨RJ6, "stringSize", "(I)I"⟩
def RJ9 : String := "java/lang/Math"
def TJ9 : u_T := fun k => match k with
  | _ => ("", "", "", false)
def tyJ9 : Nat → FieldType := fun k => match k with
  | _ => .int
abbrev wsJ90 : List Cond := u_ws RJ9 TJ9 0
theorem nmJ9 : ∀ a, a < 0 → ∀ b, b < 0 → a ≠ b → (TJ9 a).2.1 ≠ (TJ9 b).2.1 := by decide +kernel
theorem tyJ9_ok : ∀ k, k < 0 → parseFieldDescriptor (TJ9 k).2.2.1 = some (tyJ9 k) := by decide +kernel
abbrev cJ9_max_7cf53 : ByteArray := prog_23_method_65_code
def yJ9_max_7cf53 : MethodName := ⟨RJ9, "max", "(II)I"⟩
abbrev cJ9_min_7cf53 : ByteArray := prog_23_method_69_code
def yJ9_min_7cf53 : MethodName := ⟨RJ9, "min", "(II)I"⟩
def RJxd2413 : String := "java/lang/Number"
def TJxd2413 : u_T := fun k => match k with
  | _ => ("", "", "", false)
def tyJxd2413 : Nat → FieldType := fun k => match k with
  | _ => .int
abbrev wsJxd24130 : List Cond := u_ws RJxd2413 TJxd2413 0
theorem nmJxd2413 : ∀ a, a < 0 → ∀ b, b < 0 → a ≠ b → (TJxd2413 a).2.1 ≠ (TJxd2413 b).2.1 := by decide +kernel
theorem tyJxd2413_ok : ∀ k, k < 0 → parseFieldDescriptor (TJxd2413 k).2.2.1 = some (tyJxd2413 k) := by decide +kernel
def RJ0 : String := "java/lang/String"
def TJ0 : u_T := fun k => match k with
  | 0 => ("java/lang/String", "value", "[B", true)
  | 1 => ("java/lang/String", "coder", "B", true)
  | 2 => ("java/lang/String", "hash", "I", false)
  | _ => ("java/lang/String", "hashIsZero", "Z", false)
def tyJ0 : Nat → FieldType := fun k => match k with
  | 0 => .array .byte
  | 1 => .byte
  | 2 => .int
  | _ => .boolean
abbrev wsJ00 : List Cond := u_ws RJ0 TJ0 4
theorem nmJ0 : ∀ a, a < 4 → ∀ b, b < 4 → a ≠ b → (TJ0 a).2.1 ≠ (TJ0 b).2.1 := by decide +kernel
theorem tyJ0_ok : ∀ k, k < 4 → parseFieldDescriptor (TJ0 k).2.2.1 = some (tyJ0 k) := by decide +kernel
abbrev cJ0_init_81219 : ByteArray := prog_26_method_53_code
def yJ0_init_81219 : MethodName := ⟨RJ0, "<init>", "(Ljava/lang/StringBuilder;)V"⟩
abbrev cJ0_length_8abf5 : ByteArray := prog_26_method_54_code
def yJ0_length_8abf5 : MethodName := ⟨RJ0, "length", "()I"⟩
abbrev cJ0_charAt_5068e : ByteArray := prog_26_method_56_code
def yJ0_charAt_5068e : MethodName := ⟨RJ0, "charAt", "(I)C"⟩
abbrev cJ0_getBytes_840e7 : ByteArray := prog_26_method_147_code
def yJ0_getBytes_840e7 : MethodName := ⟨RJ0, "getBytes", "([BIB)V"⟩
abbrev cJ0_init_db425 : ByteArray := prog_26_method_150_code
def yJ0_init_db425 : MethodName := ⟨RJ0, "<init>", "(Ljava/lang/AbstractStringBuilder;Ljava/lang/Void;)V"⟩
abbrev cJ0_coder_7d493 : ByteArray := prog_26_method_152_code
def yJ0_coder_7d493 : MethodName := ⟨RJ0, "coder", "()B"⟩
abbrev cJ0_isLatin1_aae02 : ByteArray := prog_26_method_154_code
def yJ0_isLatin1_aae02 : MethodName := ⟨RJ0, "isLatin1", "()Z"⟩
abbrev cJ0_checkIndex_df160 : ByteArray := prog_26_method_155_code
def yJ0_checkIndex_df160 : MethodName := ⟨RJ0, "checkIndex", "(II)V"⟩
abbrev cJ0_checkBoundsOffCount_cabcc : ByteArray := prog_26_method_157_code
def yJ0_checkBoundsOffCount_cabcc : MethodName := ⟨RJ0, "checkBoundsOffCount", "(III)I"⟩
abbrev cJ0_checkBoundsBeginEnd_23922 : ByteArray := prog_26_method_158_code
def yJ0_checkBoundsBeginEnd_23922 : MethodName := ⟨RJ0, "checkBoundsBeginEnd", "(III)V"⟩
def RJ4 : String := "java/lang/StringBuilder"
def TJ4 : u_T := fun k => match k with
  | 0 => ("java/lang/AbstractStringBuilder", "value", "[B", false)
  | 1 => ("java/lang/AbstractStringBuilder", "coder", "B", false)
  | 2 => ("java/lang/AbstractStringBuilder", "maybeLatin1", "Z", false)
  | _ => ("java/lang/AbstractStringBuilder", "count", "I", false)
def tyJ4 : Nat → FieldType := fun k => match k with
  | 0 => .array .byte
  | 1 => .byte
  | 2 => .boolean
  | _ => .int
abbrev wsJ40 : List Cond := u_ws RJ4 TJ4 4
theorem nmJ4 : ∀ a, a < 4 → ∀ b, b < 4 → a ≠ b → (TJ4 a).2.1 ≠ (TJ4 b).2.1 := by decide +kernel
theorem tyJ4_ok : ∀ k, k < 4 → parseFieldDescriptor (TJ4 k).2.2.1 = some (tyJ4 k) := by decide +kernel
abbrev cJ4_init_da8c8 : ByteArray := prog_27_method_1_code
def yJ4_init_da8c8 : MethodName := ⟨RJ4, "<init>", "()V"⟩
abbrev cJ4_append_15ec4 : ByteArray := prog_27_method_7_code
def yJ4_append_15ec4 : MethodName := ⟨RJ4, "append", "(Ljava/lang/String;)Ljava/lang/StringBuilder;"⟩
abbrev cJ4_append_cf468 : ByteArray := prog_27_method_14_code
def yJ4_append_cf468 : MethodName := ⟨RJ4, "append", "(C)Ljava/lang/StringBuilder;"⟩
abbrev cJ4_append_bf812 : ByteArray := prog_27_method_15_code
def yJ4_append_bf812 : MethodName := ⟨RJ4, "append", "(I)Ljava/lang/StringBuilder;"⟩
abbrev cJ4_toString_0e30d : ByteArray := prog_27_method_42_code
def yJ4_toString_0e30d : MethodName := ⟨RJ4, "toString", "()Ljava/lang/String;"⟩
abbrev cJ4_charAt_5068e : ByteArray := prog_27_method_88_code
def yJ4_charAt_5068e : MethodName := ⟨RJ4, "charAt", "(I)C"⟩
abbrev cJ4_setLength_d00df : ByteArray := prog_27_method_89_code
def yJ4_setLength_d00df : MethodName := ⟨RJ4, "setLength", "(I)V"⟩
abbrev cJ4_length_8abf5 : ByteArray := prog_27_method_93_code
def yJ4_length_8abf5 : MethodName := ⟨RJ4, "length", "()I"⟩
def RJx7c733 : String := "java/lang/StringIndexOutOfBoundsException"
def TJx7c733 : u_T := fun k => match k with
  | 0 => ("java/lang/Throwable", "backtrace", "Ljava/lang/Object;", false)
  | 1 => ("java/lang/Throwable", "detailMessage", "Ljava/lang/String;", false)
  | 2 => ("java/lang/Throwable", "cause", "Ljava/lang/Throwable;", false)
  | 3 => ("java/lang/Throwable", "stackTrace", "[Ljava/lang/StackTraceElement;", false)
  | 4 => ("java/lang/Throwable", "depth", "I", false)
  | _ => ("java/lang/Throwable", "suppressedExceptions", "Ljava/util/List;", false)
def tyJx7c733 : Nat → FieldType := fun k => match k with
  | 0 => .object "java/lang/Object"
  | 1 => .object "java/lang/String"
  | 2 => .object "java/lang/Throwable"
  | 3 => .array (.object "java/lang/StackTraceElement")
  | 4 => .int
  | _ => .object "java/util/List"
abbrev wsJx7c7330 : List Cond := u_ws RJx7c733 TJx7c733 6
theorem nmJx7c733 : ∀ a, a < 6 → ∀ b, b < 6 → a ≠ b → (TJx7c733 a).2.1 ≠ (TJx7c733 b).2.1 := by decide +kernel
theorem tyJx7c733_ok : ∀ k, k < 6 → parseFieldDescriptor (TJx7c733 k).2.2.1 = some (tyJx7c733 k) := by decide +kernel
abbrev cJx7c733_init_d00df : ByteArray := prog_28_method_3_code
def yJx7c733_init_d00df : MethodName := ⟨RJx7c733, "<init>", "(I)V"⟩
def RJ1 : String := "java/lang/StringLatin1"
def TJ1 : u_T := fun k => match k with
  | _ => ("", "", "", false)
def tyJ1 : Nat → FieldType := fun k => match k with
  | _ => .int
abbrev wsJ10 : List Cond := u_ws RJ1 TJ1 0
theorem nmJ1 : ∀ a, a < 0 → ∀ b, b < 0 → a ≠ b → (TJ1 a).2.1 ≠ (TJ1 b).2.1 := by decide +kernel
theorem tyJ1_ok : ∀ k, k < 0 → parseFieldDescriptor (TJ1 k).2.2.1 = some (tyJ1 k) := by decide +kernel
abbrev cJ1_charAt_3b067 : ByteArray := prog_29_method_2_code
def yJ1_charAt_3b067 : MethodName := ⟨RJ1, "charAt", "([BI)C"⟩
abbrev cJ1_canEncode_fc78d : ByteArray := prog_29_method_3_code
def yJ1_canEncode_fc78d : MethodName := ⟨RJ1, "canEncode", "(C)Z"⟩
abbrev cJ1_fillNull_b72d1 : ByteArray := prog_29_method_48_code
def yJ1_fillNull_b72d1 : MethodName := ⟨RJ1, "fillNull", "([BII)V"⟩
abbrev cJ1_inflate_0e8fd : ByteArray := prog_29_method_50_code
def yJ1_inflate_0e8fd : MethodName := ⟨RJ1, "inflate", "([BI[BII)V"⟩
def RJ2 : String := "java/lang/StringUTF16"
def TJ2 : u_T := fun k => match k with
  | _ => ("", "", "", false)
def tyJ2 : Nat → FieldType := fun k => match k with
  | _ => .int
abbrev wsJ20 : List Cond := u_ws RJ2 TJ2 0
theorem nmJ2 : ∀ a, a < 0 → ∀ b, b < 0 → a ≠ b → (TJ2 a).2.1 ≠ (TJ2 b).2.1 := by decide +kernel
theorem tyJ2_ok : ∀ k, k < 0 → parseFieldDescriptor (TJ2 k).2.2.1 = some (tyJ2 k) := by decide +kernel
abbrev cJ2_newBytesFor_77867 : ByteArray := prog_30_method_2_code
def yJ2_newBytesFor_77867 : MethodName := ⟨RJ2, "newBytesFor", "(I)[B"⟩
abbrev cJ2_newBytesLength_0f7a4 : ByteArray := prog_30_method_3_code
def yJ2_newBytesLength_0f7a4 : MethodName := ⟨RJ2, "newBytesLength", "(I)I"⟩
abbrev cJ2_putChar_b72d1 : ByteArray := prog_30_method_4_code
def yJ2_putChar_b72d1 : MethodName := ⟨RJ2, "putChar", "([BII)V"⟩
abbrev cJ2_getChar_3b067 : ByteArray := prog_30_method_5_code
def yJ2_getChar_3b067 : MethodName := ⟨RJ2, "getChar", "([BI)C"⟩
abbrev cJ2_length_9d52b : ByteArray := prog_30_method_6_code
def yJ2_length_9d52b : MethodName := ⟨RJ2, "length", "([B)I"⟩
abbrev cJ2_coderFromArrayLen_85cad : ByteArray := prog_30_method_15_code
def yJ2_coderFromArrayLen_85cad : MethodName := ⟨RJ2, "coderFromArrayLen", "([BI)B"⟩
abbrev cJ2_compress_39247 : ByteArray := prog_30_method_17_code
def yJ2_compress_39247 : MethodName := ⟨RJ2, "compress", "([BII)[B"⟩
abbrev cJ2_compress_5af95 : ByteArray := prog_30_method_22_code
def yJ2_compress_5af95 : MethodName := ⟨RJ2, "compress", "([BI[BII)I"⟩
abbrev cJ2_fillNull_b72d1 : ByteArray := prog_30_method_70_code
def yJ2_fillNull_b72d1 : MethodName := ⟨RJ2, "fillNull", "([BII)V"⟩
abbrev cJ2_putCharSB_b72d1 : ByteArray := prog_30_method_71_code
def yJ2_putCharSB_b72d1 : MethodName := ⟨RJ2, "putCharSB", "([BII)V"⟩
abbrev cJ2_getChars_46870 : ByteArray := prog_30_method_77_code
def yJ2_getChars_46870 : MethodName := ⟨RJ2, "getChars", "(III[B)I"⟩
abbrev cJ2_putCharsAt_cd4e5 : ByteArray := prog_30_method_81_code
def yJ2_putCharsAt_cd4e5 : MethodName := ⟨RJ2, "putCharsAt", "([BICCCC)I"⟩
abbrev cJ2_charAt_3b067 : ByteArray := prog_30_method_83_code
def yJ2_charAt_3b067 : MethodName := ⟨RJ2, "charAt", "([BI)C"⟩
abbrev cJ2_inflate_0e8fd : ByteArray := prog_30_method_86_code
def yJ2_inflate_0e8fd : MethodName := ⟨RJ2, "inflate", "([BI[BII)V"⟩
abbrev cJ2_getChars_ba4f3 : ByteArray := prog_30_method_89_code
def yJ2_getChars_ba4f3 : MethodName := ⟨RJ2, "getChars", "(II[B)I"⟩
abbrev cJ2_checkIndex_2214a : ByteArray := prog_30_method_91_code
def yJ2_checkIndex_2214a : MethodName := ⟨RJ2, "checkIndex", "(I[B)V"⟩
abbrev cJ2_checkBoundsBeginEnd_d044e : ByteArray := prog_30_method_93_code
def yJ2_checkBoundsBeginEnd_d044e : MethodName := ⟨RJ2, "checkBoundsBeginEnd", "(II[B)V"⟩
abbrev cJ2_checkBoundsOffCount_d044e : ByteArray := prog_30_method_94_code
def yJ2_checkBoundsOffCount_d044e : MethodName := ⟨RJ2, "checkBoundsOffCount", "(II[B)V"⟩
def RJ10 : String := "java/lang/System"
def TJ10 : u_T := fun k => match k with
  | _ => ("", "", "", false)
def tyJ10 : Nat → FieldType := fun k => match k with
  | _ => .int
abbrev wsJ100 : List Cond := u_ws RJ10 TJ10 0
theorem nmJ10 : ∀ a, a < 0 → ∀ b, b < 0 → a ≠ b → (TJ10 a).2.1 ≠ (TJ10 b).2.1 := by decide +kernel
theorem tyJ10_ok : ∀ k, k < 0 → parseFieldDescriptor (TJ10 k).2.2.1 = some (tyJ10 k) := by decide +kernel
def RJxfd54e : String := "java/lang/constant/Constable"
def TJxfd54e : u_T := fun k => match k with
  | _ => ("", "", "", false)
def tyJxfd54e : Nat → FieldType := fun k => match k with
  | _ => .int
abbrev wsJxfd54e0 : List Cond := u_ws RJxfd54e TJxfd54e 0
theorem nmJxfd54e : ∀ a, a < 0 → ∀ b, b < 0 → a ≠ b → (TJxfd54e a).2.1 ≠ (TJxfd54e b).2.1 := by decide +kernel
theorem tyJxfd54e_ok : ∀ k, k < 0 → parseFieldDescriptor (TJxfd54e k).2.2.1 = some (tyJxfd54e k) := by decide +kernel
def RJx3cf43 : String := "java/lang/constant/ConstantDesc"
def TJx3cf43 : u_T := fun k => match k with
  | _ => ("", "", "", false)
def tyJx3cf43 : Nat → FieldType := fun k => match k with
  | _ => .int
abbrev wsJx3cf430 : List Cond := u_ws RJx3cf43 TJx3cf43 0
theorem nmJx3cf43 : ∀ a, a < 0 → ∀ b, b < 0 → a ≠ b → (TJx3cf43 a).2.1 ≠ (TJx3cf43 b).2.1 := by decide +kernel
theorem tyJx3cf43_ok : ∀ k, k < 0 → parseFieldDescriptor (TJx3cf43 k).2.2.1 = some (tyJx3cf43 k) := by decide +kernel
def RJ7 : String := "java/util/Arrays"
def TJ7 : u_T := fun k => match k with
  | _ => ("", "", "", false)
def tyJ7 : Nat → FieldType := fun k => match k with
  | _ => .int
abbrev wsJ70 : List Cond := u_ws RJ7 TJ7 0
theorem nmJ7 : ∀ a, a < 0 → ∀ b, b < 0 → a ≠ b → (TJ7 a).2.1 ≠ (TJ7 b).2.1 := by decide +kernel
theorem tyJ7_ok : ∀ k, k < 0 → parseFieldDescriptor (TJ7 k).2.2.1 = some (tyJ7 k) := by decide +kernel
abbrev cJ7_rangeCheck_23922 : ByteArray := prog_36_method_30_code
def yJ7_rangeCheck_23922 : MethodName := ⟨RJ7, "rangeCheck", "(III)V"⟩
abbrev cJ7_fill_eb02e : ByteArray := prog_36_method_110_code
def yJ7_fill_eb02e : MethodName := ⟨RJ7, "fill", "([BIIB)V"⟩
abbrev cJ7_copyOf_9075b : ByteArray := prog_36_method_121_code
def yJ7_copyOf_9075b : MethodName := ⟨RJ7, "copyOf", "([BI)[B"⟩
abbrev cJ7_checkLength_df160 : ByteArray := prog_36_method_131_code
def yJ7_checkLength_df160 : MethodName := ⟨RJ7, "checkLength", "(II)V"⟩
abbrev cJ7_copyOfRange_39247 : ByteArray := prog_36_method_132_code
def yJ7_copyOfRange_39247 : MethodName := ⟨RJ7, "copyOfRange", "([BII)[B"⟩
abbrev cJ7_copyOfRangeByte_39247 : ByteArray := prog_36_method_133_code
def yJ7_copyOfRangeByte_39247 : MethodName := ⟨RJ7, "copyOfRangeByte", "([BII)[B"⟩
def RJ8 : String := "jdk/internal/util/ArraysSupport"
def TJ8 : u_T := fun k => match k with
  | _ => ("", "", "", false)
def tyJ8 : Nat → FieldType := fun k => match k with
  | _ => .int
abbrev wsJ80 : List Cond := u_ws RJ8 TJ8 0
theorem nmJ8 : ∀ a, a < 0 → ∀ b, b < 0 → a ≠ b → (TJ8 a).2.1 ≠ (TJ8 b).2.1 := by decide +kernel
theorem tyJ8_ok : ∀ k, k < 0 → parseFieldDescriptor (TJ8 k).2.2.1 = some (tyJ8 k) := by decide +kernel
abbrev cJ8_newLength_cabcc : ByteArray := prog_38_method_27_code
def yJ8_newLength_cabcc : MethodName := ⟨RJ8, "newLength", "(III)I"⟩
abbrev cJ8_hugeLength_7cf53 : ByteArray := prog_38_method_28_code
def yJ8_hugeLength_7cf53 : MethodName := ⟨RJ8, "hugeLength", "(II)I"⟩
def RJ3 : String := "jdk/internal/util/Preconditions"
def TJ3 : u_T := fun k => match k with
  | _ => ("", "", "", false)
def tyJ3 : Nat → FieldType := fun k => match k with
  | _ => .int
abbrev wsJ30 : List Cond := u_ws RJ3 TJ3 0
theorem nmJ3 : ∀ a, a < 0 → ∀ b, b < 0 → a ≠ b → (TJ3 a).2.1 ≠ (TJ3 b).2.1 := by decide +kernel
theorem tyJ3_ok : ∀ k, k < 0 → parseFieldDescriptor (TJ3 k).2.2.1 = some (tyJ3 k) := by decide +kernel
abbrev cJ3_checkIndex_8e157 : ByteArray := prog_39_method_11_code
def yJ3_checkIndex_8e157 : MethodName := ⟨RJ3, "checkIndex", "(IILjava/util/function/BiFunction;)I"⟩
abbrev cJ3_checkFromToIndex_8c36e : ByteArray := prog_39_method_12_code
def yJ3_checkFromToIndex_8c36e : MethodName := ⟨RJ3, "checkFromToIndex", "(IIILjava/util/function/BiFunction;)I"⟩
abbrev cJ3_checkFromIndexSize_8c36e : ByteArray := prog_39_method_13_code
def yJ3_checkFromIndexSize_8c36e : MethodName := ⟨RJ3, "checkFromIndexSize", "(IIILjava/util/function/BiFunction;)I"⟩
def RL : String := "CustomsShedLaw"
abbrev cL_cell : ByteArray := method_2_code
def yL_cell : MethodName := ⟨RL, "cell", "([II)I"⟩
abbrev cL_pick : ByteArray := method_3_code
def yL_pick : MethodName := ⟨RL, "pick", "([III)I"⟩
abbrev cL_addLot : ByteArray := method_4_code
def yL_addLot : MethodName := ⟨RL, "addLot", "(LCustomsShed;CIII)I"⟩
abbrev cL_seal : ByteArray := method_5_code
def yL_seal : MethodName := ⟨RL, "seal", "(LCustomsShed;I)I"⟩
abbrev cL_open : ByteArray := method_6_code
def yL_open : MethodName := ⟨RL, "open", "(LCustomsShed;I)I"⟩
abbrev cL_wet : ByteArray := method_7_code
def yL_wet : MethodName := ⟨RL, "wet", "(LCustomsShed;I)I"⟩
abbrev cL_move : ByteArray := method_8_code
def yL_move : MethodName := ⟨RL, "move", "(LCustomsShed;II)I"⟩
abbrev cL_lot : ByteArray := method_9_code
def yL_lot : MethodName := ⟨RL, "lot", "(LCustomsShed;I)I"⟩
abbrev cL_quantity : ByteArray := method_11_code
def yL_quantity : MethodName := ⟨RL, "quantity", "(LCustomsShed;I)I"⟩
abbrev cL_price : ByteArray := method_12_code
def yL_price : MethodName := ⟨RL, "price", "(LCustomsShed;I)I"⟩
abbrev cL_value : ByteArray := method_13_code
def yL_value : MethodName := ⟨RL, "value", "(LCustomsShed;I)I"⟩
abbrev cL_bay : ByteArray := method_14_code
def yL_bay : MethodName := ⟨RL, "bay", "(LCustomsShed;I)I"⟩
abbrev cL_isSealed : ByteArray := method_15_code
def yL_isSealed : MethodName := ⟨RL, "isSealed", "(LCustomsShed;I)I"⟩
abbrev cL_isDamp : ByteArray := method_16_code
def yL_isDamp : MethodName := ⟨RL, "isDamp", "(LCustomsShed;I)I"⟩
abbrev cL_lotAt : ByteArray := method_17_code
def yL_lotAt : MethodName := ⟨RL, "lotAt", "(LCustomsShed;I)I"⟩
abbrev cL_nextEmptyBay : ByteArray := method_18_code
def yL_nextEmptyBay : MethodName := ⟨RL, "nextEmptyBay", "(LCustomsShed;I)I"⟩
abbrev cL_quantityOfKind : ByteArray := method_19_code
def yL_quantityOfKind : MethodName := ⟨RL, "quantityOfKind", "(LCustomsShed;C)I"⟩
abbrev cL_lotByValue : ByteArray := method_20_code
def yL_lotByValue : MethodName := ⟨RL, "lotByValue", "(LCustomsShed;I)I"⟩
abbrev cL_addStep : ByteArray := method_21_code
def yL_addStep : MethodName := ⟨RL, "addStep", "(LCustomsShed;II)I"⟩
abbrev cL_removeStep : ByteArray := method_22_code
def yL_removeStep : MethodName := ⟨RL, "removeStep", "(LCustomsShed;I)I"⟩
abbrev cL_threshold : ByteArray := method_23_code
def yL_threshold : MethodName := ⟨RL, "threshold", "(LCustomsShed;I)I"⟩
abbrev cL_rate : ByteArray := method_24_code
def yL_rate : MethodName := ⟨RL, "rate", "(LCustomsShed;I)I"⟩
abbrev cL_dutyOn : ByteArray := method_25_code
def yL_dutyOn : MethodName := ⟨RL, "dutyOn", "(LCustomsShed;I)I"⟩
abbrev cL_dutyOnByCoins : ByteArray := method_26_code
def yL_dutyOnByCoins : MethodName := ⟨RL, "dutyOnByCoins", "(LCustomsShed;I)I"⟩
abbrev cL_duty : ByteArray := method_27_code
def yL_duty : MethodName := ⟨RL, "duty", "(LCustomsShed;I)I"⟩
abbrev cL_passDays : ByteArray := method_28_code
def yL_passDays : MethodName := ⟨RL, "passDays", "(LCustomsShed;I)I"⟩
abbrev cL_dampAfter : ByteArray := method_29_code
def yL_dampAfter : MethodName := ⟨RL, "dampAfter", "(LCustomsShed;I)I"⟩
abbrev cL_enqueue : ByteArray := method_30_code
def yL_enqueue : MethodName := ⟨RL, "enqueue", "(LCustomsShed;I)I"⟩
abbrev cL_audit : ByteArray := method_31_code
def yL_audit : MethodName := ⟨RL, "audit", "(LCustomsShed;)I"⟩
abbrev cL_queued : ByteArray := method_32_code
def yL_queued : MethodName := ⟨RL, "queued", "(LCustomsShed;I)I"⟩
abbrev cL_deposit : ByteArray := method_33_code
def yL_deposit : MethodName := ⟨RL, "deposit", "(LCustomsShed;I)I"⟩
abbrev cL_release : ByteArray := method_34_code
def yL_release : MethodName := ⟨RL, "release", "(LCustomsShed;I)I"⟩
abbrev cL_meanValue : ByteArray := method_35_code
def yL_meanValue : MethodName := ⟨RL, "meanValue", "(LCustomsShed;)D"⟩
abbrev cL_sealedFraction : ByteArray := method_36_code
def yL_sealedFraction : MethodName := ⟨RL, "sealedFraction", "(LCustomsShed;)F"⟩
abbrev cL_writeLot : ByteArray := method_37_code
def yL_writeLot : MethodName := ⟨RL, "writeLot", "(LCustomsShed;I)I"⟩
abbrev cL_outputCharacter : ByteArray := method_38_code
def yL_outputCharacter : MethodName := ⟨RL, "outputCharacter", "(LCustomsShed;I)I"⟩
abbrev cL_feed : ByteArray := method_39_code
def yL_feed : MethodName := ⟨RL, "feed", "(LCustomsShed;C)I"⟩
abbrev cL_execute : ByteArray := method_40_code
def yL_execute : MethodName := ⟨RL, "execute", "(LCustomsShed;)I"⟩
abbrev cL_undo : ByteArray := method_43_code
def yL_undo : MethodName := ⟨RL, "undo", "(LCustomsShed;)I"⟩
abbrev cL_restore : ByteArray := method_44_code
def yL_restore : MethodName := ⟨RL, "restore", "(LCustomsShed;)I"⟩
abbrev cL_runs : ByteArray := method_45_code
def yL_runs : MethodName := ⟨RL, "runs", "(LCustomsShed;Ljava/lang/String;)I"⟩
abbrev cL_law : ByteArray := code
def yL_law : MethodName := ⟨RL, "law", "([I)Z"⟩
abbrev cL_does : ByteArray := method_48_code
def yL_does : MethodName := ⟨RL, "does", "([IIILCustomsShed;II)I"⟩
abbrev cL_sum : ByteArray := method_49_code
def yL_sum : MethodName := ⟨RL, "sum", "(LCustomsShed;)J"⟩
abbrev cL_areLots : ByteArray := method_50_code
def yL_areLots : MethodName := ⟨RL, "areLots", "(LCustomsShed;)Z"⟩
abbrev cL_isWhole : ByteArray := method_51_code
def yL_isWhole : MethodName := ⟨RL, "isWhole", "(LCustomsShed;[IIZ)Z"⟩
abbrev cL_isKept : ByteArray := method_52_code
def yL_isKept : MethodName := ⟨RL, "isKept", "(LCustomsShed;[JI)Z"⟩
abbrev vwCl : List vw_C := [(RJ0, TJ0, 4), (RJ4, TJ4, 4), (RJx00060, TJx00060, 6), (RJx7c733, TJx7c733, 6), (RX0, TX0, 2), (RX1, TX1, 7), (RX2, TX2, 3), (RX3, TX3, 9), (RX4, TX4, 7), (RX5, TX5, 3), (RX6, TX6, 10)]
