def RX0 : String := "CardTabulator$Card"
def TX0 : u_T := fun k => match k with
  | 0 => ("CardTabulator$Card", "columns", "[I", true)
  | 1 => ("CardTabulator$Card", "feeding", "I", false)
  | _ => ("CardTabulator$Card", "tornColumn", "I", false)
def tyX0 : Nat → FieldType := fun k => match k with
  | 0 => .array .int
  | 1 => .int
  | _ => .int
abbrev wsX00 : List Cond := u_ws RX0 TX0 3
theorem nmX0 : ∀ a, a < 3 → ∀ b, b < 3 → a ≠ b → (TX0 a).2.1 ≠ (TX0 b).2.1 := by decide +kernel
theorem tyX0_ok : ∀ k, k < 3 → parseFieldDescriptor (TX0 k).2.2.1 = some (tyX0 k) := by decide +kernel
abbrev cX0_init : ByteArray := prog_2_method_1_code
def yX0_init : MethodName := ⟨RX0, "<init>", "()V"⟩
abbrev cX0_clear : ByteArray := prog_2_method_2_code
def yX0_clear : MethodName := ⟨RX0, "clear", "()V"⟩
abbrev cX0_shows : ByteArray := prog_2_method_3_code
def yX0_shows : MethodName := ⟨RX0, "shows", "(I)I"⟩
abbrev cX0_show : ByteArray := prog_2_method_4_code
def yX0_show : MethodName := ⟨RX0, "show", "(II)V"⟩
abbrev cX0_readFrom : ByteArray := prog_2_method_5_code
def yX0_readFrom : MethodName := ⟨RX0, "readFrom", "(LCardTabulator$Card;)V"⟩
abbrev cX0_copyFrom : ByteArray := prog_2_method_6_code
def yX0_copyFrom : MethodName := ⟨RX0, "copyFrom", "(LCardTabulator$Card;)V"⟩
def RX1 : String := "CardTabulator$Deck"
def TX1 : u_T := fun k => match k with
  | 0 => ("CardTabulator$Deck", "cards", "[LCardTabulator$Card;", true)
  | 1 => ("CardTabulator$Deck", "stray", "LCardTabulator$Card;", true)
  | _ => ("CardTabulator$Deck", "count", "I", false)
def tyX1 : Nat → FieldType := fun k => match k with
  | 0 => .array (.object "CardTabulator$Card")
  | 1 => .object "CardTabulator$Card"
  | _ => .int
abbrev wsX10 : List Cond := u_ws RX1 TX1 3
theorem nmX1 : ∀ a, a < 3 → ∀ b, b < 3 → a ≠ b → (TX1 a).2.1 ≠ (TX1 b).2.1 := by decide +kernel
theorem tyX1_ok : ∀ k, k < 3 → parseFieldDescriptor (TX1 k).2.2.1 = some (tyX1 k) := by decide +kernel
abbrev cX1_init : ByteArray := prog_3_method_1_code
def yX1_init : MethodName := ⟨RX1, "<init>", "()V"⟩
abbrev cX1_size : ByteArray := prog_3_method_2_code
def yX1_size : MethodName := ⟨RX1, "size", "()I"⟩
abbrev cX1_has : ByteArray := prog_3_method_3_code
def yX1_has : MethodName := ⟨RX1, "has", "(I)Z"⟩
abbrev cX1_at : ByteArray := prog_3_method_4_code
def yX1_at : MethodName := ⟨RX1, "at", "(I)LCardTabulator$Card;"⟩
abbrev cX1_put : ByteArray := prog_3_method_5_code
def yX1_put : MethodName := ⟨RX1, "put", "(ILCardTabulator$Card;)V"⟩
abbrev cX1_insertBlank : ByteArray := prog_3_method_6_code
def yX1_insertBlank : MethodName := ⟨RX1, "insertBlank", "(I)LCardTabulator$Card;"⟩
abbrev cX1_remove : ByteArray := prog_3_method_7_code
def yX1_remove : MethodName := ⟨RX1, "remove", "(I)V"⟩
abbrev cX1_carry : ByteArray := prog_3_method_8_code
def yX1_carry : MethodName := ⟨RX1, "carry", "(II)V"⟩
abbrev cX1_copyFrom : ByteArray := prog_3_method_9_code
def yX1_copyFrom : MethodName := ⟨RX1, "copyFrom", "(LCardTabulator$Deck;)V"⟩
def RX2 : String := "CardTabulator$History"
def TX2 : u_T := fun k => match k with
  | 0 => ("CardTabulator$History", "states", "[LCardTabulator$State;", true)
  | 1 => ("CardTabulator$History", "oldest", "I", false)
  | _ => ("CardTabulator$History", "count", "I", false)
def tyX2 : Nat → FieldType := fun k => match k with
  | 0 => .array (.object "CardTabulator$State")
  | 1 => .int
  | _ => .int
abbrev wsX20 : List Cond := u_ws RX2 TX2 3
theorem nmX2 : ∀ a, a < 3 → ∀ b, b < 3 → a ≠ b → (TX2 a).2.1 ≠ (TX2 b).2.1 := by decide +kernel
theorem tyX2_ok : ∀ k, k < 3 → parseFieldDescriptor (TX2 k).2.2.1 = some (tyX2 k) := by decide +kernel
abbrev cX2_init : ByteArray := prog_4_method_1_code
def yX2_init : MethodName := ⟨RX2, "<init>", "()V"⟩
abbrev cX2_size : ByteArray := prog_4_method_2_code
def yX2_size : MethodName := ⟨RX2, "size", "()I"⟩
abbrev cX2_isEmpty : ByteArray := prog_4_method_3_code
def yX2_isEmpty : MethodName := ⟨RX2, "isEmpty", "()Z"⟩
abbrev cX2_record : ByteArray := prog_4_method_4_code
def yX2_record : MethodName := ⟨RX2, "record", "(LCardTabulator$State;)V"⟩
abbrev cX2_restoreInto : ByteArray := prog_4_method_5_code
def yX2_restoreInto : MethodName := ⟨RX2, "restoreInto", "(LCardTabulator$State;)V"⟩
abbrev cX2_at : ByteArray := prog_4_method_6_code
def yX2_at : MethodName := ⟨RX2, "at", "(I)LCardTabulator$State;"⟩
def RX3 : String := "CardTabulator$Layout"
def TX3 : u_T := fun k => match k with
  | 0 => ("CardTabulator$Layout", "firsts", "[I", true)
  | _ => ("CardTabulator$Layout", "widths", "[I", true)
def tyX3 : Nat → FieldType := fun k => match k with
  | 0 => .array .int
  | _ => .array .int
abbrev wsX30 : List Cond := u_ws RX3 TX3 2
theorem nmX3 : ∀ a, a < 2 → ∀ b, b < 2 → a ≠ b → (TX3 a).2.1 ≠ (TX3 b).2.1 := by decide +kernel
theorem tyX3_ok : ∀ k, k < 2 → parseFieldDescriptor (TX3 k).2.2.1 = some (tyX3 k) := by decide +kernel
abbrev cX3_init : ByteArray := prog_5_method_1_code
def yX3_init : MethodName := ⟨RX3, "<init>", "()V"⟩
abbrev cX3_firstOf : ByteArray := prog_5_method_2_code
def yX3_firstOf : MethodName := ⟨RX3, "firstOf", "(I)I"⟩
abbrev cX3_widthOf : ByteArray := prog_5_method_3_code
def yX3_widthOf : MethodName := ⟨RX3, "widthOf", "(I)I"⟩
abbrev cX3_place : ByteArray := prog_5_method_4_code
def yX3_place : MethodName := ⟨RX3, "place", "(III)V"⟩
abbrev cX3_valueOn : ByteArray := prog_5_method_5_code
def yX3_valueOn : MethodName := ⟨RX3, "valueOn", "(LCardTabulator$Card;I)I"⟩
abbrev cX3_dueOn : ByteArray := prog_5_method_6_code
def yX3_dueOn : MethodName := ⟨RX3, "dueOn", "(LCardTabulator$Card;)I"⟩
abbrev cX3_weighedDigits : ByteArray := prog_5_method_7_code
def yX3_weighedDigits : MethodName := ⟨RX3, "weighedDigits", "(LCardTabulator$Card;I)I"⟩
abbrev cX3_keyOn : ByteArray := prog_5_method_8_code
def yX3_keyOn : MethodName := ⟨RX3, "keyOn", "(LCardTabulator$Card;)J"⟩
abbrev cX3_copyFrom : ByteArray := prog_5_method_9_code
def yX3_copyFrom : MethodName := ⟨RX3, "copyFrom", "(LCardTabulator$Layout;)V"⟩
def RX4 : String := "CardTabulator$Printer"
def TX4 : u_T := fun k => match k with
  | 0 => ("CardTabulator$Printer", "worker", "LCardTabulator$Totals;", true)
  | 1 => ("CardTabulator$Printer", "group", "LCardTabulator$Totals;", true)
  | 2 => ("CardTabulator$Printer", "department", "LCardTabulator$Totals;", true)
  | _ => ("CardTabulator$Printer", "all", "LCardTabulator$Totals;", true)
def tyX4 : Nat → FieldType := fun k => match k with
  | 0 => .object "CardTabulator$Totals"
  | 1 => .object "CardTabulator$Totals"
  | 2 => .object "CardTabulator$Totals"
  | _ => .object "CardTabulator$Totals"
abbrev wsX40 : List Cond := u_ws RX4 TX4 4
theorem nmX4 : ∀ a, a < 4 → ∀ b, b < 4 → a ≠ b → (TX4 a).2.1 ≠ (TX4 b).2.1 := by decide +kernel
theorem tyX4_ok : ∀ k, k < 4 → parseFieldDescriptor (TX4 k).2.2.1 = some (tyX4 k) := by decide +kernel
abbrev cX4_init : ByteArray := prog_6_method_1_code
def yX4_init : MethodName := ⟨RX4, "<init>", "()V"⟩
abbrev cX4_begin : ByteArray := prog_6_method_2_code
def yX4_begin : MethodName := ⟨RX4, "begin", "()V"⟩
abbrev cX4_accept : ByteArray := prog_6_method_3_code
def yX4_accept : MethodName := ⟨RX4, "accept", "(LCardTabulator$Report;LCardTabulator$Totals;I)V"⟩
abbrev cX4_end : ByteArray := prog_6_method_4_code
def yX4_end : MethodName := ⟨RX4, "end", "(LCardTabulator$Report;)V"⟩
abbrev cX4_breakBefore : ByteArray := prog_6_method_5_code
def yX4_breakBefore : MethodName := ⟨RX4, "breakBefore", "(LCardTabulator$Report;LCardTabulator$Totals;)V"⟩
abbrev cX4_breakWorker : ByteArray := prog_6_method_6_code
def yX4_breakWorker : MethodName := ⟨RX4, "breakWorker", "(LCardTabulator$Report;)V"⟩
abbrev cX4_breakGroup : ByteArray := prog_6_method_7_code
def yX4_breakGroup : MethodName := ⟨RX4, "breakGroup", "(LCardTabulator$Report;)V"⟩
abbrev cX4_breakDepartment : ByteArray := prog_6_method_8_code
def yX4_breakDepartment : MethodName := ⟨RX4, "breakDepartment", "(LCardTabulator$Report;)V"⟩
def RX5 : String := "CardTabulator$Report"
def TX5 : u_T := fun k => match k with
  | 0 => ("CardTabulator$Report", "lines", "[I", true)
  | 1 => ("CardTabulator$Report", "reasons", "[I", true)
  | 2 => ("CardTabulator$Report", "lineCount", "I", false)
  | 3 => ("CardTabulator$Report", "deckSize", "I", false)
  | _ => ("CardTabulator$Report", "limit", "I", false)
def tyX5 : Nat → FieldType := fun k => match k with
  | 0 => .array .int
  | 1 => .array .int
  | 2 => .int
  | 3 => .int
  | _ => .int
abbrev wsX50 : List Cond := u_ws RX5 TX5 5
theorem nmX5 : ∀ a, a < 5 → ∀ b, b < 5 → a ≠ b → (TX5 a).2.1 ≠ (TX5 b).2.1 := by decide +kernel
theorem tyX5_ok : ∀ k, k < 5 → parseFieldDescriptor (TX5 k).2.2.1 = some (tyX5 k) := by decide +kernel
abbrev cX5_init : ByteArray := prog_7_method_1_code
def yX5_init : MethodName := ⟨RX5, "<init>", "()V"⟩
abbrev cX5_begin : ByteArray := prog_7_method_2_code
def yX5_begin : MethodName := ⟨RX5, "begin", "(II)V"⟩
abbrev cX5_isEmpty : ByteArray := prog_7_method_3_code
def yX5_isEmpty : MethodName := ⟨RX5, "isEmpty", "()Z"⟩
abbrev cX5_has : ByteArray := prog_7_method_4_code
def yX5_has : MethodName := ⟨RX5, "has", "(I)Z"⟩
abbrev cX5_hadCard : ByteArray := prog_7_method_5_code
def yX5_hadCard : MethodName := ⟨RX5, "hadCard", "(I)Z"⟩
abbrev cX5_reasonOf : ByteArray := prog_7_method_6_code
def yX5_reasonOf : MethodName := ⟨RX5, "reasonOf", "(I)I"⟩
abbrev cX5_judge : ByteArray := prog_7_method_7_code
def yX5_judge : MethodName := ⟨RX5, "judge", "(II)V"⟩
abbrev cX5_refusedCards : ByteArray := prog_7_method_8_code
def yX5_refusedCards : MethodName := ⟨RX5, "refusedCards", "()I"⟩
abbrev cX5_number : ByteArray := prog_7_method_9_code
def yX5_number : MethodName := ⟨RX5, "number", "(II)I"⟩
abbrev cX5_lastLine : ByteArray := prog_7_method_10_code
def yX5_lastLine : MethodName := ⟨RX5, "lastLine", "(I)I"⟩
abbrev cX5_sumOfWorkers : ByteArray := prog_7_method_11_code
def yX5_sumOfWorkers : MethodName := ⟨RX5, "sumOfWorkers", "()I"⟩
abbrev cX5_isCard : ByteArray := prog_7_method_12_code
def yX5_isCard : MethodName := ⟨RX5, "isCard", "(I)Z"⟩
abbrev cX5_print : ByteArray := prog_7_method_13_code
def yX5_print : MethodName := ⟨RX5, "print", "(ILCardTabulator$Totals;I)V"⟩
abbrev cX5_readCard : ByteArray := prog_7_method_14_code
def yX5_readCard : MethodName := ⟨RX5, "readCard", "(ILCardTabulator$Totals;)V"⟩
abbrev cX5_copyFrom : ByteArray := prog_7_method_15_code
def yX5_copyFrom : MethodName := ⟨RX5, "copyFrom", "(LCardTabulator$Report;)V"⟩
def RX6 : String := "CardTabulator$SecondWay"
def TX6 : u_T := fun k => match k with
  | 0 => ("CardTabulator$SecondWay", "keys", "[LCardTabulator$Totals;", true)
  | 1 => ("CardTabulator$SecondWay", "stray", "LCardTabulator$Totals;", true)
  | 2 => ("CardTabulator$SecondWay", "slip", "LCardTabulator$Totals;", true)
  | _ => ("CardTabulator$SecondWay", "count", "I", false)
def tyX6 : Nat → FieldType := fun k => match k with
  | 0 => .array (.object "CardTabulator$Totals")
  | 1 => .object "CardTabulator$Totals"
  | 2 => .object "CardTabulator$Totals"
  | _ => .int
abbrev wsX60 : List Cond := u_ws RX6 TX6 4
theorem nmX6 : ∀ a, a < 4 → ∀ b, b < 4 → a ≠ b → (TX6 a).2.1 ≠ (TX6 b).2.1 := by decide +kernel
theorem tyX6_ok : ∀ k, k < 4 → parseFieldDescriptor (TX6 k).2.2.1 = some (tyX6 k) := by decide +kernel
abbrev cX6_init : ByteArray := prog_8_method_1_code
def yX6_init : MethodName := ⟨RX6, "<init>", "()V"⟩
abbrev cX6_size : ByteArray := prog_8_method_2_code
def yX6_size : MethodName := ⟨RX6, "size", "()I"⟩
abbrev cX6_at : ByteArray := prog_8_method_3_code
def yX6_at : MethodName := ⟨RX6, "at", "(I)LCardTabulator$Totals;"⟩
abbrev cX6_reckon : ByteArray := prog_8_method_4_code
def yX6_reckon : MethodName := ⟨RX6, "reckon", "(LCardTabulator$Report;)V"⟩
abbrev cX6_ofKey : ByteArray := prog_8_method_5_code
def yX6_ofKey : MethodName := ⟨RX6, "ofKey", "(J)LCardTabulator$Totals;"⟩
abbrev cX6_sum : ByteArray := prog_8_method_6_code
def yX6_sum : MethodName := ⟨RX6, "sum", "(II)I"⟩
abbrev cX6_numberOf : ByteArray := prog_8_method_7_code
def yX6_numberOf : MethodName := ⟨RX6, "numberOf", "(LCardTabulator$Totals;I)I"⟩
abbrev cX6_rank : ByteArray := prog_8_method_8_code
def yX6_rank : MethodName := ⟨RX6, "rank", "()V"⟩
abbrev cX6_put : ByteArray := prog_8_method_9_code
def yX6_put : MethodName := ⟨RX6, "put", "(ILCardTabulator$Totals;)V"⟩
abbrev cX6_isAhead : ByteArray := prog_8_method_10_code
def yX6_isAhead : MethodName := ⟨RX6, "isAhead", "(LCardTabulator$Totals;LCardTabulator$Totals;)Z"⟩
def RX7 : String := "CardTabulator$Sorter"
def TX7 : u_T := fun k => match k with
  | 0 => ("CardTabulator$Sorter", "order", "[I", true)
  | 1 => ("CardTabulator$Sorter", "sorted", "[I", true)
  | 2 => ("CardTabulator$Sorter", "starts", "[I", true)
  | 3 => ("CardTabulator$Sorter", "cards", "[LCardTabulator$Card;", true)
  | _ => ("CardTabulator$Sorter", "count", "I", false)
def tyX7 : Nat → FieldType := fun k => match k with
  | 0 => .array .int
  | 1 => .array .int
  | 2 => .array .int
  | 3 => .array (.object "CardTabulator$Card")
  | _ => .int
abbrev wsX70 : List Cond := u_ws RX7 TX7 5
theorem nmX7 : ∀ a, a < 5 → ∀ b, b < 5 → a ≠ b → (TX7 a).2.1 ≠ (TX7 b).2.1 := by decide +kernel
theorem tyX7_ok : ∀ k, k < 5 → parseFieldDescriptor (TX7 k).2.2.1 = some (tyX7 k) := by decide +kernel
abbrev cX7_init : ByteArray := prog_9_method_1_code
def yX7_init : MethodName := ⟨RX7, "<init>", "()V"⟩
abbrev cX7_begin : ByteArray := prog_9_method_2_code
def yX7_begin : MethodName := ⟨RX7, "begin", "(LCardTabulator$Deck;)V"⟩
abbrev cX7_passBy : ByteArray := prog_9_method_3_code
def yX7_passBy : MethodName := ⟨RX7, "passBy", "(LCardTabulator$Deck;I)V"⟩
abbrev cX7_findStarts : ByteArray := prog_9_method_4_code
def yX7_findStarts : MethodName := ⟨RX7, "findStarts", "(LCardTabulator$Deck;I)V"⟩
abbrev cX7_stackOf : ByteArray := prog_9_method_5_code
def yX7_stackOf : MethodName := ⟨RX7, "stackOf", "(LCardTabulator$Card;I)I"⟩
abbrev cX7_arrange : ByteArray := prog_9_method_6_code
def yX7_arrange : MethodName := ⟨RX7, "arrange", "(LCardTabulator$Deck;)I"⟩
abbrev cX7_isInKeyOrder : ByteArray := prog_9_method_7_code
def yX7_isInKeyOrder : MethodName := ⟨RX7, "isInKeyOrder", "(LCardTabulator$Deck;LCardTabulator$Layout;)Z"⟩
def RX8 : String := "CardTabulator$State"
def TX8 : u_T := fun k => match k with
  | 0 => ("CardTabulator$State", "layout", "LCardTabulator$Layout;", true)
  | 1 => ("CardTabulator$State", "deck", "LCardTabulator$Deck;", true)
  | 2 => ("CardTabulator$State", "report", "LCardTabulator$Report;", true)
  | 3 => ("CardTabulator$State", "settings", "[I", true)
  | _ => ("CardTabulator$State", "controls", "[I", true)
def tyX8 : Nat → FieldType := fun k => match k with
  | 0 => .object "CardTabulator$Layout"
  | 1 => .object "CardTabulator$Deck"
  | 2 => .object "CardTabulator$Report"
  | 3 => .array .int
  | _ => .array .int
abbrev wsX80 : List Cond := u_ws RX8 TX8 5
theorem nmX8 : ∀ a, a < 5 → ∀ b, b < 5 → a ≠ b → (TX8 a).2.1 ≠ (TX8 b).2.1 := by decide +kernel
theorem tyX8_ok : ∀ k, k < 5 → parseFieldDescriptor (TX8 k).2.2.1 = some (tyX8 k) := by decide +kernel
abbrev cX8_init : ByteArray := prog_10_method_1_code
def yX8_init : MethodName := ⟨RX8, "<init>", "()V"⟩
abbrev cX8_settingOf : ByteArray := prog_10_method_2_code
def yX8_settingOf : MethodName := ⟨RX8, "settingOf", "(I)I"⟩
abbrev cX8_copyFrom : ByteArray := prog_10_method_3_code
def yX8_copyFrom : MethodName := ⟨RX8, "copyFrom", "(LCardTabulator$State;)V"⟩
def RX9 : String := "CardTabulator$Text"
def TX9 : u_T := fun k => match k with
  | 0 => ("CardTabulator$Text", "bytes", "[I", true)
  | 1 => ("CardTabulator$Text", "digits", "[I", true)
  | 2 => ("CardTabulator$Text", "starts", "[I", true)
  | 3 => ("CardTabulator$Text", "length", "I", false)
  | 4 => ("CardTabulator$Text", "word", "I", false)
  | 5 => ("CardTabulator$Text", "faultKind", "I", false)
  | _ => ("CardTabulator$Text", "faultPlace", "I", false)
def tyX9 : Nat → FieldType := fun k => match k with
  | 0 => .array .int
  | 1 => .array .int
  | 2 => .array .int
  | 3 => .int
  | 4 => .int
  | 5 => .int
  | _ => .int
abbrev wsX90 : List Cond := u_ws RX9 TX9 7
theorem nmX9 : ∀ a, a < 7 → ∀ b, b < 7 → a ≠ b → (TX9 a).2.1 ≠ (TX9 b).2.1 := by decide +kernel
theorem tyX9_ok : ∀ k, k < 7 → parseFieldDescriptor (TX9 k).2.2.1 = some (tyX9 k) := by decide +kernel
abbrev cX9_init : ByteArray := prog_11_method_1_code
def yX9_init : MethodName := ⟨RX9, "<init>", "()V"⟩
abbrev cX9_size : ByteArray := prog_11_method_2_code
def yX9_size : MethodName := ⟨RX9, "size", "()I"⟩
abbrev cX9_clear : ByteArray := prog_11_method_3_code
def yX9_clear : MethodName := ⟨RX9, "clear", "()V"⟩
abbrev cX9_append : ByteArray := prog_11_method_4_code
def yX9_append : MethodName := ⟨RX9, "append", "(I)V"⟩
abbrev cX9_at : ByteArray := prog_11_method_5_code
def yX9_at : MethodName := ⟨RX9, "at", "(I)I"⟩
abbrev cX9_readsAsCard : ByteArray := prog_11_method_6_code
def yX9_readsAsCard : MethodName := ⟨RX9, "readsAsCard", "(LCardTabulator$Layout;)Z"⟩
abbrev cX9_noteFault : ByteArray := prog_11_method_7_code
def yX9_noteFault : MethodName := ⟨RX9, "noteFault", "(II)Z"⟩
abbrev cX9_readBetweenWords : ByteArray := prog_11_method_8_code
def yX9_readBetweenWords : MethodName := ⟨RX9, "readBetweenWords", "(I)I"⟩
abbrev cX9_readInWord : ByteArray := prog_11_method_9_code
def yX9_readInWord : MethodName := ⟨RX9, "readInWord", "(ILCardTabulator$Layout;)I"⟩
abbrev cX9_countDigit : ByteArray := prog_11_method_10_code
def yX9_countDigit : MethodName := ⟨RX9, "countDigit", "(I)I"⟩
abbrev cX9_hasWord : ByteArray := prog_11_method_11_code
def yX9_hasWord : MethodName := ⟨RX9, "hasWord", "()Z"⟩
abbrev cX9_endsBehindLetter : ByteArray := prog_11_method_12_code
def yX9_endsBehindLetter : MethodName := ⟨RX9, "endsBehindLetter", "()Z"⟩
abbrev cX9_digitsOf : ByteArray := prog_11_method_13_code
def yX9_digitsOf : MethodName := ⟨RX9, "digitsOf", "(I)I"⟩
abbrev cX9_isTextField : ByteArray := prog_11_method_14_code
def yX9_isTextField : MethodName := ⟨RX9, "isTextField", "(I)Z"⟩
abbrev cX9_fieldOf : ByteArray := prog_11_method_15_code
def yX9_fieldOf : MethodName := ⟨RX9, "fieldOf", "(I)I"⟩
abbrev cX9_punchOn : ByteArray := prog_11_method_16_code
def yX9_punchOn : MethodName := ⟨RX9, "punchOn", "(LCardTabulator$Card;LCardTabulator$Layout;)V"⟩
abbrev cX9_punchNumber : ByteArray := prog_11_method_17_code
def yX9_punchNumber : MethodName := ⟨RX9, "punchNumber", "(LCardTabulator$Card;LCardTabulator$Layout;I)V"⟩
def RX10 : String := "CardTabulator$Totals"
def TX10 : u_T := fun k => match k with
  | 0 => ("CardTabulator$Totals", "department", "I", false)
  | 1 => ("CardTabulator$Totals", "group", "I", false)
  | 2 => ("CardTabulator$Totals", "worker", "I", false)
  | 3 => ("CardTabulator$Totals", "rate", "I", false)
  | 4 => ("CardTabulator$Totals", "cards", "I", false)
  | 5 => ("CardTabulator$Totals", "hours", "I", false)
  | 6 => ("CardTabulator$Totals", "wages", "I", false)
  | _ => ("CardTabulator$Totals", "overtime", "I", false)
def tyX10 : Nat → FieldType := fun k => match k with
  | 0 => .int
  | 1 => .int
  | 2 => .int
  | 3 => .int
  | 4 => .int
  | 5 => .int
  | 6 => .int
  | _ => .int
abbrev wsX100 : List Cond := u_ws RX10 TX10 8
theorem nmX10 : ∀ a, a < 8 → ∀ b, b < 8 → a ≠ b → (TX10 a).2.1 ≠ (TX10 b).2.1 := by decide +kernel
theorem tyX10_ok : ∀ k, k < 8 → parseFieldDescriptor (TX10 k).2.2.1 = some (tyX10 k) := by decide +kernel
abbrev cX10_init : ByteArray := prog_12_method_1_code
def yX10_init : MethodName := ⟨RX10, "<init>", "()V"⟩
abbrev cX10_keyOf : ByteArray := prog_12_method_2_code
def yX10_keyOf : MethodName := ⟨RX10, "keyOf", "(III)J"⟩
abbrev cX10_key : ByteArray := prog_12_method_3_code
def yX10_key : MethodName := ⟨RX10, "key", "()J"⟩
abbrev cX10_clear : ByteArray := prog_12_method_4_code
def yX10_clear : MethodName := ⟨RX10, "clear", "()V"⟩
abbrev cX10_fillFrom : ByteArray := prog_12_method_5_code
def yX10_fillFrom : MethodName := ⟨RX10, "fillFrom", "(LCardTabulator$Card;LCardTabulator$Layout;)Z"⟩
abbrev cX10_addCard : ByteArray := prog_12_method_6_code
def yX10_addCard : MethodName := ⟨RX10, "addCard", "(LCardTabulator$Totals;)V"⟩
abbrev cX10_overtimeBeyond : ByteArray := prog_12_method_7_code
def yX10_overtimeBeyond : MethodName := ⟨RX10, "overtimeBeyond", "(I)I"⟩
abbrev cX10_addOvertime : ByteArray := prog_12_method_8_code
def yX10_addOvertime : MethodName := ⟨RX10, "addOvertime", "(I)V"⟩
def RX11 : String := "CardTabulator"
def TX11 : u_T := fun k => match k with
  | 0 => ("CardTabulator", "now", "LCardTabulator$State;", true)
  | 1 => ("CardTabulator", "past", "LCardTabulator$History;", true)
  | 2 => ("CardTabulator", "images", "[LCardTabulator$State;", true)
  | 3 => ("CardTabulator", "text", "LCardTabulator$Text;", true)
  | 4 => ("CardTabulator", "sorter", "LCardTabulator$Sorter;", true)
  | 5 => ("CardTabulator", "printer", "LCardTabulator$Printer;", true)
  | 6 => ("CardTabulator", "secondWay", "LCardTabulator$SecondWay;", true)
  | 7 => ("CardTabulator", "read", "LCardTabulator$Card;", true)
  | _ => ("CardTabulator", "slip", "LCardTabulator$Totals;", true)
def tyX11 : Nat → FieldType := fun k => match k with
  | 0 => .object "CardTabulator$State"
  | 1 => .object "CardTabulator$History"
  | 2 => .array (.object "CardTabulator$State")
  | 3 => .object "CardTabulator$Text"
  | 4 => .object "CardTabulator$Sorter"
  | 5 => .object "CardTabulator$Printer"
  | 6 => .object "CardTabulator$SecondWay"
  | 7 => .object "CardTabulator$Card"
  | _ => .object "CardTabulator$Totals"
abbrev wsX110 : List Cond := u_ws RX11 TX11 9
theorem nmX11 : ∀ a, a < 9 → ∀ b, b < 9 → a ≠ b → (TX11 a).2.1 ≠ (TX11 b).2.1 := by decide +kernel
theorem tyX11_ok : ∀ k, k < 9 → parseFieldDescriptor (TX11 k).2.2.1 = some (tyX11 k) := by decide +kernel
abbrev cX11_init : ByteArray := prog_1_method_1_code
def yX11_init : MethodName := ⟨RX11, "<init>", "()V"⟩
abbrev cX11_lay : ByteArray := prog_1_method_2_code
def yX11_lay : MethodName := ⟨RX11, "lay", "(III)I"⟩
abbrev cX11_set : ByteArray := prog_1_method_3_code
def yX11_set : MethodName := ⟨RX11, "set", "(II)I"⟩
abbrev cX11_control : ByteArray := prog_1_method_4_code
def yX11_control : MethodName := ⟨RX11, "control", "(II)I"⟩
abbrev cX11_punch : ByteArray := prog_1_method_5_code
def yX11_punch : MethodName := ⟨RX11, "punch", "(I)I"⟩
abbrev cX11_take : ByteArray := prog_1_method_6_code
def yX11_take : MethodName := ⟨RX11, "take", "(I)I"⟩
abbrev cX11_move : ByteArray := prog_1_method_7_code
def yX11_move : MethodName := ⟨RX11, "move", "(II)I"⟩
abbrev cX11_repunch : ByteArray := prog_1_method_8_code
def yX11_repunch : MethodName := ⟨RX11, "repunch", "(III)I"⟩
abbrev cX11_mark : ByteArray := prog_1_method_9_code
def yX11_mark : MethodName := ⟨RX11, "mark", "(III)I"⟩
abbrev cX11_pass : ByteArray := prog_1_method_10_code
def yX11_pass : MethodName := ⟨RX11, "pass", "(I)I"⟩
abbrev cX11_sort : ByteArray := prog_1_method_11_code
def yX11_sort : MethodName := ⟨RX11, "sort", "(I)I"⟩
abbrev cX11_run : ByteArray := prog_1_method_12_code
def yX11_run : MethodName := ⟨RX11, "run", "()I"⟩
abbrev cX11_undo : ByteArray := prog_1_method_13_code
def yX11_undo : MethodName := ⟨RX11, "undo", "()I"⟩
abbrev cX11_write : ByteArray := prog_1_method_14_code
def yX11_write : MethodName := ⟨RX11, "write", "(I)I"⟩
abbrev cX11_wipe : ByteArray := prog_1_method_15_code
def yX11_wipe : MethodName := ⟨RX11, "wipe", "()I"⟩
abbrev cX11_told : ByteArray := prog_1_method_17_code
def yX11_told : MethodName := ⟨RX11, "told", "(I)I"⟩
abbrev cX11_setting : ByteArray := prog_1_method_18_code
def yX11_setting : MethodName := ⟨RX11, "setting", "(I)I"⟩
abbrev cX11_card : ByteArray := prog_1_method_21_code
def yX11_card : MethodName := ⟨RX11, "card", "(II)I"⟩
abbrev cX11_line : ByteArray := prog_1_method_22_code
def yX11_line : MethodName := ⟨RX11, "line", "(II)I"⟩
abbrev cX11_reason : ByteArray := prog_1_method_23_code
def yX11_reason : MethodName := ⟨RX11, "reason", "(I)I"⟩
abbrev cX11_differs : ByteArray := prog_1_method_24_code
def yX11_differs : MethodName := ⟨RX11, "differs", "(I)I"⟩
abbrev cX11_again : ByteArray := prog_1_method_25_code
def yX11_again : MethodName := ⟨RX11, "again", "(II)I"⟩
abbrev cX11_agrees : ByteArray := prog_1_method_26_code
def yX11_agrees : MethodName := ⟨RX11, "agrees", "()I"⟩
abbrev cX11_ranked : ByteArray := prog_1_method_27_code
def yX11_ranked : MethodName := ⟨RX11, "ranked", "(II)I"⟩
abbrev cX11_mean : ByteArray := prog_1_method_28_code
def yX11_mean : MethodName := ⟨RX11, "mean", "()F"⟩
abbrev cX11_passes : ByteArray := prog_1_method_29_code
def yX11_passes : MethodName := ⟨RX11, "passes", "()I"⟩
abbrev cX11_accepts : ByteArray := prog_1_method_30_code
def yX11_accepts : MethodName := ⟨RX11, "accepts", "(I)I"⟩
abbrev cX11_keep : ByteArray := prog_1_method_31_code
def yX11_keep : MethodName := ⟨RX11, "keep", "(I)I"⟩
abbrev cX11_back : ByteArray := prog_1_method_32_code
def yX11_back : MethodName := ⟨RX11, "back", "(I)I"⟩
abbrev cX11_feedDeck : ByteArray := prog_1_method_33_code
def yX11_feedDeck : MethodName := ⟨RX11, "feedDeck", "(IZ)I"⟩
abbrev cX11_printJudged : ByteArray := prog_1_method_34_code
def yX11_printJudged : MethodName := ⟨RX11, "printJudged", "(II)V"⟩
abbrev cX11_refusal : ByteArray := prog_1_method_35_code
def yX11_refusal : MethodName := ⟨RX11, "refusal", "(LCardTabulator$Card;IJ)I"⟩
abbrev cX11_faultOfCard : ByteArray := prog_1_method_36_code
def yX11_faultOfCard : MethodName := ⟨RX11, "faultOfCard", "(LCardTabulator$Card;)I"⟩
abbrev cX11_acceptedTotal : ByteArray := prog_1_method_37_code
def yX11_acceptedTotal : MethodName := ⟨RX11, "acceptedTotal", "(I)I"⟩
abbrev cX11_isDeckInOrder : ByteArray := prog_1_method_38_code
def yX11_isDeckInOrder : MethodName := ⟨RX11, "isDeckInOrder", "()Z"⟩
abbrev cX11_passByKeyColumns : ByteArray := prog_1_method_39_code
def yX11_passByKeyColumns : MethodName := ⟨RX11, "passByKeyColumns", "(I)V"⟩
abbrev cX11_isWithin : ByteArray := prog_1_method_40_code
def yX11_isWithin : MethodName := ⟨RX11, "isWithin", "(III)Z"⟩
abbrev cX11_isField : ByteArray := prog_1_method_41_code
def yX11_isField : MethodName := ⟨RX11, "isField", "(I)Z"⟩
abbrev cX11_isColumn : ByteArray := prog_1_method_42_code
def yX11_isColumn : MethodName := ⟨RX11, "isColumn", "(I)Z"⟩
abbrev cX11_isSetting : ByteArray := prog_1_method_43_code
def yX11_isSetting : MethodName := ⟨RX11, "isSetting", "(I)Z"⟩
abbrev cX11_isControl : ByteArray := prog_1_method_44_code
def yX11_isControl : MethodName := ⟨RX11, "isControl", "(I)Z"⟩
abbrev cX11_fits : ByteArray := prog_1_method_45_code
def yX11_fits : MethodName := ⟨RX11, "fits", "(III)Z"⟩
def RX12 : String := "CardTabulatorModel"
def TX12 : u_T := fun k => match k with
  | _ => ("", "", "", false)
def tyX12 : Nat → FieldType := fun k => match k with
  | _ => .int
abbrev wsX120 : List Cond := u_ws RX12 TX12 0
theorem nmX12 : ∀ a, a < 0 → ∀ b, b < 0 → a ≠ b → (TX12 a).2.1 ≠ (TX12 b).2.1 := by decide +kernel
theorem tyX12_ok : ∀ k, k < 0 → parseFieldDescriptor (TX12 k).2.2.1 = some (tyX12 k) := by decide +kernel
def RJ9 : String := "java/lang/Math"
def TJ9 : u_T := fun k => match k with
  | _ => ("", "", "", false)
def tyJ9 : Nat → FieldType := fun k => match k with
  | _ => .int
abbrev wsJ90 : List Cond := u_ws RJ9 TJ9 0
theorem nmJ9 : ∀ a, a < 0 → ∀ b, b < 0 → a ≠ b → (TJ9 a).2.1 ≠ (TJ9 b).2.1 := by decide +kernel
theorem tyJ9_ok : ∀ k, k < 0 → parseFieldDescriptor (TJ9 k).2.2.1 = some (tyJ9 k) := by decide +kernel
abbrev cJ9_floorMod_7cf53 : ByteArray := prog_15_method_50_code
def yJ9_floorMod_7cf53 : MethodName := ⟨RJ9, "floorMod", "(II)I"⟩
abbrev cJ9_abs_0f7a4 : ByteArray := prog_15_method_59_code
def yJ9_abs_0f7a4 : MethodName := ⟨RJ9, "abs", "(I)I"⟩
abbrev cJ9_min_7cf53 : ByteArray := prog_15_method_69_code
def yJ9_min_7cf53 : MethodName := ⟨RJ9, "min", "(II)I"⟩
def RJ10 : String := "java/lang/System"
def TJ10 : u_T := fun k => match k with
  | _ => ("", "", "", false)
def tyJ10 : Nat → FieldType := fun k => match k with
  | _ => .int
abbrev wsJ100 : List Cond := u_ws RJ10 TJ10 0
theorem nmJ10 : ∀ a, a < 0 → ∀ b, b < 0 → a ≠ b → (TJ10 a).2.1 ≠ (TJ10 b).2.1 := by decide +kernel
theorem tyJ10_ok : ∀ k, k < 0 → parseFieldDescriptor (TJ10 k).2.2.1 = some (tyJ10 k) := by decide +kernel
def RL : String := "CardTabulatorLaw"
abbrev cL_cell : ByteArray := method_2_code
def yL_cell : MethodName := ⟨RL, "cell", "([II)I"⟩
abbrev cL_low : ByteArray := method_3_code
def yL_low : MethodName := ⟨RL, "low", "(II)I"⟩
abbrev cL_number : ByteArray := method_4_code
def yL_number : MethodName := ⟨RL, "number", "(LCardTabulator;II)I"⟩
abbrev cL_write : ByteArray := method_5_code
def yL_write : MethodName := ⟨RL, "write", "(LCardTabulator;I)I"⟩
abbrev cL_change : ByteArray := method_6_code
def yL_change : MethodName := ⟨RL, "change", "(LCardTabulator;II)I"⟩
abbrev cL_isReport : ByteArray := method_7_code
def yL_isReport : MethodName := ⟨RL, "isReport", "(LCardTabulator;)Z"⟩
abbrev cL_isAgain : ByteArray := method_8_code
def yL_isAgain : MethodName := ⟨RL, "isAgain", "(LCardTabulator;)Z"⟩
abbrev cL_isSorted : ByteArray := method_9_code
def yL_isSorted : MethodName := ⟨RL, "isSorted", "(LCardTabulator;)Z"⟩
abbrev cL_isAccepted : ByteArray := method_10_code
def yL_isAccepted : MethodName := ⟨RL, "isAccepted", "(LCardTabulator;I)Z"⟩
abbrev cL_areAlike : ByteArray := method_11_code
def yL_areAlike : MethodName := ⟨RL, "areAlike", "(LCardTabulator;LCardTabulator;)Z"⟩
abbrev cL_law : ByteArray := code
def yL_law : MethodName := ⟨RL, "law", "([I)Z"⟩
def wsL_law_r1 : List Cond := [Cond.classLink RL 10 RX11, Cond.instantiable RX11 9, Cond.initialized RX11, Cond.methodLink RL 114 yX11_init, Cond.instanceMethod yX11_init, Cond.code yX11_init cX11_init 1 none, Cond.methodLink RX11 3 objectInit, Cond.instanceMethod objectInit, Cond.code objectInit ⟨#[0xb1]⟩ 1 none, Cond.classLink RX11 9 RX8, Cond.instantiable RX8 5, Cond.initialized RX8, Cond.fieldLink RX11 12 "CardTabulator" "now" "LCardTabulator$State;", Cond.classLink RX11 16 RX2, Cond.instantiable RX2 3, Cond.initialized RX2, Cond.fieldLink RX11 19 "CardTabulator" "past" "LCardTabulator$History;", Cond.fieldLink RX11 23 "CardTabulator" "images" "[LCardTabulator$State;", Cond.classLink RX11 27 RX9, Cond.instantiable RX9 7, Cond.initialized RX9, Cond.fieldLink RX11 30 "CardTabulator" "text" "LCardTabulator$Text;", Cond.classLink RX11 34 RX7, Cond.instantiable RX7 5]
def wsL_law_r2 : List Cond := [Cond.initialized RX7, Cond.fieldLink RX11 37 "CardTabulator" "sorter" "LCardTabulator$Sorter;", Cond.classLink RX11 41 RX4, Cond.instantiable RX4 4, Cond.initialized RX4, Cond.fieldLink RX11 44 "CardTabulator" "printer" "LCardTabulator$Printer;", Cond.classLink RX11 48 RX6, Cond.instantiable RX6 4, Cond.initialized RX6, Cond.fieldLink RX11 51 "CardTabulator" "secondWay" "LCardTabulator$SecondWay;", Cond.classLink RX11 55 RX0, Cond.instantiable RX0 3, Cond.initialized RX0, Cond.fieldLink RX11 58 "CardTabulator" "read" "LCardTabulator$Card;", Cond.classLink RX11 62 RX10, Cond.instantiable RX10 8, Cond.initialized RX10, Cond.fieldLink RX11 65 "CardTabulator" "slip" "LCardTabulator$Totals;", Cond.instanceMethod yX8_init, Cond.code yX8_init cX8_init 1 none, Cond.methodLink RX8 3 objectInit, Cond.classLink RX8 9 RX3, Cond.instantiable RX3 2, Cond.initialized RX3]
def wsL_law_r3 : List Cond := [Cond.fieldLink RX8 12 "CardTabulator$State" "layout" "LCardTabulator$Layout;", Cond.classLink RX8 18 RX1, Cond.instantiable RX1 3, Cond.initialized RX1, Cond.fieldLink RX8 21 "CardTabulator$State" "deck" "LCardTabulator$Deck;", Cond.classLink RX8 25 RX5, Cond.instantiable RX5 5, Cond.initialized RX5, Cond.fieldLink RX8 28 "CardTabulator$State" "report" "LCardTabulator$Report;", Cond.arrayClass .int, Cond.fieldLink RX8 32 "CardTabulator$State" "settings" "[I", Cond.constant RX8 36 (-1000009), Cond.fieldLink RX8 37 "CardTabulator$State" "controls" "[I", Cond.instanceMethod yX3_init, Cond.code yX3_init cX3_init 1 none, Cond.methodLink RX3 3 objectInit, Cond.fieldLink RX3 9 "CardTabulator$Layout" "firsts" "[I", Cond.fieldLink RX3 15 "CardTabulator$Layout" "widths" "[I", Cond.methodLink RX8 20 yX1_init, Cond.instanceMethod yX1_init, Cond.code yX1_init cX1_init 2 none, Cond.methodLink RX1 3 objectInit, Cond.classLink RX1 9 RX0, Cond.fieldLink RX1 11 "CardTabulator$Deck" "cards" "[LCardTabulator$Card;"]
def wsL_law_r4 : List Cond := [Cond.fieldLink RX1 18 "CardTabulator$Deck" "stray" "LCardTabulator$Card;", Cond.methodLink RX1 17 yX0_init, Cond.instanceMethod yX0_init, Cond.code yX0_init cX0_init 1 none, Cond.methodLink RX0 3 objectInit, Cond.fieldLink RX0 9 "CardTabulator$Card" "columns" "[I", Cond.methodLink RX0 15 yX0_clear, Cond.instanceMethod yX0_clear, Cond.selects RX0 yX0_clear yX0_clear, Cond.code yX0_clear cX0_clear 2 none, Cond.constant RX0 18 (-1000009), Cond.fieldLink RX0 19 "CardTabulator$Card" "feeding" "I", Cond.fieldLink RX0 23 "CardTabulator$Card" "tornColumn" "I", Cond.instanceMethod yX5_init, Cond.code yX5_init cX5_init 1 none, Cond.methodLink RX5 3 objectInit, Cond.fieldLink RX5 9 "CardTabulator$Report" "lines" "[I", Cond.fieldLink RX5 15 "CardTabulator$Report" "reasons" "[I", Cond.instanceMethod yX2_init, Cond.code yX2_init cX2_init 1 none, Cond.methodLink RX2 3 objectInit, Cond.classLink RX2 9 RX8, Cond.fieldLink RX2 11 "CardTabulator$History" "states" "[LCardTabulator$State;", Cond.instanceMethod yX9_init]
def wsL_law_r5 : List Cond := [Cond.code yX9_init cX9_init 1 none, Cond.methodLink RX9 3 objectInit, Cond.fieldLink RX9 9 "CardTabulator$Text" "bytes" "[I", Cond.fieldLink RX9 15 "CardTabulator$Text" "digits" "[I", Cond.fieldLink RX9 18 "CardTabulator$Text" "starts" "[I", Cond.constant RX9 21 (-1000009), Cond.fieldLink RX9 22 "CardTabulator$Text" "faultKind" "I", Cond.fieldLink RX9 26 "CardTabulator$Text" "faultPlace" "I", Cond.instanceMethod yX7_init, Cond.code yX7_init cX7_init 1 none, Cond.methodLink RX7 3 objectInit, Cond.fieldLink RX7 9 "CardTabulator$Sorter" "order" "[I", Cond.fieldLink RX7 15 "CardTabulator$Sorter" "sorted" "[I", Cond.fieldLink RX7 18 "CardTabulator$Sorter" "starts" "[I", Cond.classLink RX7 21 RX0, Cond.fieldLink RX7 23 "CardTabulator$Sorter" "cards" "[LCardTabulator$Card;", Cond.instanceMethod yX4_init, Cond.code yX4_init cX4_init 1 none, Cond.methodLink RX4 3 objectInit, Cond.classLink RX4 9 RX10, Cond.fieldLink RX4 12 "CardTabulator$Printer" "worker" "LCardTabulator$Totals;", Cond.fieldLink RX4 18 "CardTabulator$Printer" "group" "LCardTabulator$Totals;", Cond.fieldLink RX4 21 "CardTabulator$Printer" "department" "LCardTabulator$Totals;", Cond.fieldLink RX4 24 "CardTabulator$Printer" "all" "LCardTabulator$Totals;"]
def wsL_law_r6 : List Cond := [Cond.instanceMethod yX10_init, Cond.code yX10_init cX10_init 1 none, Cond.methodLink RX10 3 objectInit, Cond.methodLink RX11 50 yX6_init, Cond.instanceMethod yX6_init, Cond.code yX6_init cX6_init 2 none, Cond.methodLink RX6 3 objectInit, Cond.classLink RX6 9 RX10, Cond.fieldLink RX6 11 "CardTabulator$SecondWay" "keys" "[LCardTabulator$Totals;", Cond.fieldLink RX6 18 "CardTabulator$SecondWay" "stray" "LCardTabulator$Totals;", Cond.fieldLink RX6 22 "CardTabulator$SecondWay" "slip" "LCardTabulator$Totals;", Cond.methodLink RX11 57 yX0_init, Cond.methodLink RL 115 yL_cell, Cond.static yL_cell, Cond.initialized RL, Cond.code yL_cell cL_cell 2 (some .int), Cond.constant RL 7 (747796405), Cond.methodLink RL 19 yL_low, Cond.static yL_low, Cond.code yL_low cL_low 2 (some .int), Cond.constant RL 8 (2147483647), Cond.methodLink RL 119 yL_change, Cond.static yL_change, Cond.code yL_change cL_change 6 (some .int)]
def wsL_law_r7 : List Cond := [Cond.constant RL 39 (-1000009), Cond.methodLink RL 29 yX11_told, Cond.instanceMethod yX11_told, Cond.selects RX11 yX11_told yX11_told, Cond.code yX11_told cX11_told 2 (some .int), Cond.fieldLink RX11 120 "CardTabulator$State" "deck" "LCardTabulator$Deck;", Cond.fieldLink RX11 198 "CardTabulator$State" "report" "LCardTabulator$Report;", Cond.fieldLink RX11 237 "CardTabulator$Report" "lineCount" "I", Cond.constant RX11 115 (-1000009), Cond.constant RX11 77 (-1000001), Cond.methodLink RX11 124 yX1_size, Cond.instanceMethod yX1_size, Cond.selects RX1 yX1_size yX1_size, Cond.code yX1_size cX1_size 1 (some .int), Cond.fieldLink RX1 22 "CardTabulator$Deck" "count" "I", Cond.methodLink RX11 240 yX5_isEmpty, Cond.instanceMethod yX5_isEmpty, Cond.selects RX5 yX5_isEmpty yX5_isEmpty, Cond.code yX5_isEmpty cX5_isEmpty 1 (some .boolean), Cond.fieldLink RX5 18 "CardTabulator$Report" "lineCount" "I", Cond.methodLink RX11 241 yX5_lastLine, Cond.instanceMethod yX5_lastLine, Cond.selects RX5 yX5_lastLine yX5_lastLine, Cond.code yX5_lastLine cX5_lastLine 2 (some .int)]
def wsL_law_r8 : List Cond := [Cond.methodLink RX5 50 yX5_number, Cond.instanceMethod yX5_number, Cond.selects RX5 yX5_number yX5_number, Cond.code yX5_number cX5_number 3 (some .int), Cond.methodLink RX5 47 yX5_has, Cond.instanceMethod yX5_has, Cond.selects RX5 yX5_has yX5_has, Cond.code yX5_has cX5_has 2 (some .boolean), Cond.static yX11_isWithin, Cond.code yX11_isWithin cX11_isWithin 3 (some .boolean), Cond.methodLink RX11 244 yX5_refusedCards, Cond.instanceMethod yX5_refusedCards, Cond.selects RX5 yX5_refusedCards yX5_refusedCards, Cond.code yX5_refusedCards cX5_refusedCards 3 (some .int), Cond.fieldLink RX5 28 "CardTabulator$Report" "deckSize" "I", Cond.methodLink RX5 39 yX5_reasonOf, Cond.instanceMethod yX5_reasonOf, Cond.selects RX5 yX5_reasonOf yX5_reasonOf, Cond.code yX5_reasonOf cX5_reasonOf 2 (some .int), Cond.constant RX5 38 (-1000001), Cond.methodLink RX5 34 yX5_hadCard, Cond.instanceMethod yX5_hadCard, Cond.selects RX5 yX5_hadCard yX5_hadCard, Cond.code yX5_hadCard cX5_hadCard 2 (some .boolean)]
def wsL_law_r9 : List Cond := [Cond.methodLink RX11 247 yX11_isDeckInOrder, Cond.instanceMethod yX11_isDeckInOrder, Cond.selects RX11 yX11_isDeckInOrder yX11_isDeckInOrder, Cond.code yX11_isDeckInOrder cX11_isDeckInOrder 1 (some .boolean), Cond.fieldLink RX11 82 "CardTabulator$State" "layout" "LCardTabulator$Layout;", Cond.methodLink RX11 183 yX7_begin, Cond.instanceMethod yX7_begin, Cond.selects RX7 yX7_begin yX7_begin, Cond.code yX7_begin cX7_begin 3 none, Cond.methodLink RX7 33 Lib.Math.min.name, Cond.static Lib.Math.min.name, Cond.initialized "java/lang/Math", Cond.code Lib.Math.min.name Lib.Math.min.code 2 (some .int), Cond.fieldLink RX7 39 "CardTabulator$Sorter" "count" "I", Cond.methodLink RX7 27 yX1_size, Cond.methodLink RX11 301 yX7_isInKeyOrder, Cond.instanceMethod yX7_isInKeyOrder, Cond.selects RX7 yX7_isInKeyOrder yX7_isInKeyOrder, Cond.code yX7_isInKeyOrder cX7_isInKeyOrder 8 (some .boolean), Cond.constantLong RX7 73 (-1), Cond.methodLink RX7 47 yX1_at, Cond.instanceMethod yX1_at, Cond.selects RX1 yX1_at yX1_at, Cond.code yX1_at cX1_at 3 (some (.object "CardTabulator$Card"))]
def wsL_law_r10 : List Cond := [Cond.methodLink RX7 75 yX3_keyOn, Cond.instanceMethod yX3_keyOn, Cond.selects RX3 yX3_keyOn yX3_keyOn, Cond.code yX3_keyOn cX3_keyOn 5 (some .long), Cond.constant RX3 34 (-1000009), Cond.constantLong RX3 42 (-1), Cond.methodLink RX3 39 yX3_valueOn, Cond.instanceMethod yX3_valueOn, Cond.selects RX3 yX3_valueOn yX3_valueOn, Cond.code yX3_valueOn cX3_valueOn 8 (some .int), Cond.methodLink RX3 22 yX3_firstOf, Cond.instanceMethod yX3_firstOf, Cond.selects RX3 yX3_firstOf yX3_firstOf, Cond.code yX3_firstOf cX3_firstOf 2 (some .int), Cond.static yX11_isField, Cond.code yX11_isField cX11_isField 1 (some .boolean), Cond.methodLink RX3 26 yX3_widthOf, Cond.instanceMethod yX3_widthOf, Cond.selects RX3 yX3_widthOf yX3_widthOf, Cond.code yX3_widthOf cX3_widthOf 2 (some .int), Cond.methodLink RX3 29 yX0_shows, Cond.instanceMethod yX0_shows, Cond.selects RX0 yX0_shows yX0_shows, Cond.code yX0_shows cX0_shows 2 (some .int)]
def wsL_law_r11 : List Cond := [Cond.static yX11_isColumn, Cond.code yX11_isColumn cX11_isColumn 1 (some .boolean), Cond.methodLink RX3 44 yX10_keyOf, Cond.static yX10_keyOf, Cond.code yX10_keyOf cX10_keyOf 3 (some .long), Cond.constantLong RX10 9 (10000), Cond.methodLink RX11 224 yX9_size, Cond.instanceMethod yX9_size, Cond.selects RX9 yX9_size yX9_size, Cond.code yX9_size cX9_size 1 (some .int), Cond.fieldLink RX9 29 "CardTabulator$Text" "length" "I", Cond.methodLink RX11 223 yX2_size, Cond.instanceMethod yX2_size, Cond.selects RX2 yX2_size yX2_size, Cond.code yX2_size cX2_size 1 (some .int), Cond.fieldLink RX2 17 "CardTabulator$History" "count" "I", Cond.methodLink RL 32 yX11_lay, Cond.instanceMethod yX11_lay, Cond.selects RX11 yX11_lay yX11_lay, Cond.code yX11_lay cX11_lay 5 (some .int), Cond.methodLink RX11 69 yX11_isField, Cond.methodLink RX11 73 yX11_fits, Cond.static yX11_fits, Cond.code yX11_fits cX11_fits 4 (some .boolean)]
def wsL_law_r12 : List Cond := [Cond.methodLink RX11 103 yX11_isWithin, Cond.methodLink RX11 167 yX11_isColumn, Cond.methodLink RX11 78 yX2_record, Cond.instanceMethod yX2_record, Cond.selects RX2 yX2_record yX2_record, Cond.code yX2_record cX2_record 2 none, Cond.fieldLink RX2 29 "CardTabulator$History" "oldest" "I", Cond.methodLink RX2 21 yX2_at, Cond.instanceMethod yX2_at, Cond.selects RX2 yX2_at yX2_at, Cond.code yX2_at cX2_at 4 (some (.object "CardTabulator$State")), Cond.methodLink RX2 32 yJ9_floorMod_7cf53, Cond.static yJ9_floorMod_7cf53, Cond.initialized RJ9, Cond.code yJ9_floorMod_7cf53 cJ9_floorMod_7cf53 3 (some .int), Cond.methodLink RX2 25 yX8_copyFrom, Cond.instanceMethod yX8_copyFrom, Cond.selects RX8 yX8_copyFrom yX8_copyFrom, Cond.code yX8_copyFrom cX8_copyFrom 2 none, Cond.methodLink RX8 54 arraycopyName, Cond.native arraycopyName, Cond.static arraycopyName, Cond.initialized "java/lang/System", Cond.methodLink RX8 44 yX3_copyFrom]
def wsL_law_r13 : List Cond := [Cond.instanceMethod yX3_copyFrom, Cond.selects RX3 yX3_copyFrom yX3_copyFrom, Cond.code yX3_copyFrom cX3_copyFrom 2 none, Cond.methodLink RX3 50 arraycopyName, Cond.methodLink RX8 48 yX1_copyFrom, Cond.instanceMethod yX1_copyFrom, Cond.selects RX1 yX1_copyFrom yX1_copyFrom, Cond.code yX1_copyFrom cX1_copyFrom 3 none, Cond.methodLink RX1 26 yX1_at, Cond.methodLink RX1 45 yX0_copyFrom, Cond.instanceMethod yX0_copyFrom, Cond.selects RX0 yX0_copyFrom yX0_copyFrom, Cond.code yX0_copyFrom cX0_copyFrom 2 none, Cond.methodLink RX0 34 arraycopyName, Cond.methodLink RX8 51 yX5_copyFrom, Cond.instanceMethod yX5_copyFrom, Cond.selects RX5 yX5_copyFrom yX5_copyFrom, Cond.code yX5_copyFrom cX5_copyFrom 2 none, Cond.fieldLink RX5 31 "CardTabulator$Report" "limit" "I", Cond.methodLink RX5 83 arraycopyName, Cond.methodLink RX11 86 yX3_firstOf, Cond.methodLink RX11 92 yX3_place, Cond.instanceMethod yX3_place, Cond.selects RX3 yX3_place yX3_place]
def wsL_law_r14 : List Cond := [Cond.code yX3_place cX3_place 4 none, Cond.methodLink RL 36 yX11_set, Cond.instanceMethod yX11_set, Cond.selects RX11 yX11_set yX11_set, Cond.code yX11_set cX11_set 4 (some .int), Cond.fieldLink RX11 99 "CardTabulator" "MOST_OF_SETTING" "[I", Cond.fieldLink RX11 109 "CardTabulator$State" "settings" "[I", Cond.methodLink RX11 96 yX11_isSetting, Cond.static yX11_isSetting, Cond.code yX11_isSetting cX11_isSetting 1 (some .boolean), Cond.methodLink RX11 106 yX8_settingOf, Cond.instanceMethod yX8_settingOf, Cond.selects RX8 yX8_settingOf yX8_settingOf, Cond.code yX8_settingOf cX8_settingOf 2 (some .int), Cond.methodLink RL 40 yX11_control, Cond.instanceMethod yX11_control, Cond.selects RX11 yX11_control yX11_control, Cond.code yX11_control cX11_control 4 (some .int), Cond.constant RX11 116 (1000000), Cond.fieldLink RX11 117 "CardTabulator$State" "controls" "[I", Cond.methodLink RX11 112 yX11_isControl, Cond.static yX11_isControl, Cond.code yX11_isControl cX11_isControl 1 (some .boolean), Cond.methodLink RL 43 yX11_take]
def wsL_law_r15 : List Cond := [Cond.instanceMethod yX11_take, Cond.selects RX11 yX11_take yX11_take, Cond.code yX11_take cX11_take 2 (some .int), Cond.methodLink RX11 152 yX1_has, Cond.instanceMethod yX1_has, Cond.selects RX1 yX1_has yX1_has, Cond.code yX1_has cX1_has 2 (some .boolean), Cond.methodLink RX11 155 yX1_remove, Cond.instanceMethod yX1_remove, Cond.selects RX1 yX1_remove yX1_remove, Cond.code yX1_remove cX1_remove 2 none, Cond.methodLink RX1 37 yX1_has, Cond.methodLink RX1 33 yX1_carry, Cond.instanceMethod yX1_carry, Cond.selects RX1 yX1_carry yX1_carry, Cond.code yX1_carry cX1_carry 5 none, Cond.methodLink RX1 41 yX1_put, Cond.instanceMethod yX1_put, Cond.selects RX1 yX1_put yX1_put, Cond.code yX1_put cX1_put 3 none, Cond.methodLink RL 46 yX11_move, Cond.instanceMethod yX11_move, Cond.selects RX11 yX11_move yX11_move, Cond.code yX11_move cX11_move 3 (some .int)]
def wsL_law_r16 : List Cond := [Cond.methodLink RX11 162 Lib.Math.abs.name, Cond.static Lib.Math.abs.name, Cond.code Lib.Math.abs.name Lib.Math.abs.code 1 (some .int), Cond.methodLink RX11 159 yX1_carry, Cond.methodLink RL 49 yX11_repunch, Cond.instanceMethod yX11_repunch, Cond.selects RX11 yX11_repunch yX11_repunch, Cond.code yX11_repunch cX11_repunch 6 (some .int), Cond.methodLink RX11 170 yX1_at, Cond.methodLink RX11 173 yX0_shows, Cond.methodLink RX11 148 yX0_show, Cond.instanceMethod yX0_show, Cond.selects RX0 yX0_show yX0_show, Cond.code yX0_show cX0_show 3 none, Cond.methodLink RL 52 yX11_mark, Cond.instanceMethod yX11_mark, Cond.selects RX11 yX11_mark yX11_mark, Cond.code yX11_mark cX11_mark 6 (some .int), Cond.fieldLink RX11 176 "CardTabulator$Card" "feeding" "I", Cond.fieldLink RX11 180 "CardTabulator$Card" "tornColumn" "I", Cond.methodLink RL 55 yX11_pass, Cond.instanceMethod yX11_pass, Cond.selects RX11 yX11_pass yX11_pass, Cond.code yX11_pass cX11_pass 2 (some .int)]
def wsL_law_r17 : List Cond := [Cond.methodLink RX11 187 yX7_passBy, Cond.instanceMethod yX7_passBy, Cond.selects RX7 yX7_passBy yX7_passBy, Cond.code yX7_passBy cX7_passBy 6 none, Cond.methodLink RX7 55 arraycopyName, Cond.methodLink RX7 43 yX7_findStarts, Cond.instanceMethod yX7_findStarts, Cond.selects RX7 yX7_findStarts yX7_findStarts, Cond.code yX7_findStarts cX7_findStarts 4 none, Cond.methodLink RX7 51 yX7_stackOf, Cond.static yX7_stackOf, Cond.code yX7_stackOf cX7_stackOf 3 (some .int), Cond.methodLink RX7 61 yX0_shows, Cond.methodLink RX11 191 yX7_arrange, Cond.instanceMethod yX7_arrange, Cond.selects RX7 yX7_arrange yX7_arrange, Cond.code yX7_arrange cX7_arrange 4 (some .int), Cond.methodLink RX7 69 yX1_put, Cond.methodLink RL 58 yX11_sort, Cond.instanceMethod yX11_sort, Cond.selects RX11 yX11_sort yX11_sort, Cond.code yX11_sort cX11_sort 3 (some .int), Cond.methodLink RX11 195 yX3_widthOf, Cond.methodLink RL 61 yX11_run]
def wsL_law_r18 : List Cond := [Cond.instanceMethod yX11_run, Cond.selects RX11 yX11_run yX11_run, Cond.code yX11_run cX11_run 2 (some .int), Cond.methodLink RX11 202 yX5_begin, Cond.instanceMethod yX5_begin, Cond.selects RX5 yX5_begin yX5_begin, Cond.code yX5_begin cX5_begin 3 none, Cond.methodLink RX5 22 Lib.Math.min.name, Cond.methodLink RX11 206 yX4_begin, Cond.instanceMethod yX4_begin, Cond.selects RX4 yX4_begin yX4_begin, Cond.code yX4_begin cX4_begin 1 none, Cond.methodLink RX4 27 yX10_clear, Cond.instanceMethod yX10_clear, Cond.selects RX10 yX10_clear yX10_clear, Cond.code yX10_clear cX10_clear 1 none, Cond.fieldLink RX10 11 "CardTabulator$Totals" "department" "I", Cond.fieldLink RX10 17 "CardTabulator$Totals" "group" "I", Cond.fieldLink RX10 20 "CardTabulator$Totals" "worker" "I", Cond.fieldLink RX10 27 "CardTabulator$Totals" "rate" "I", Cond.fieldLink RX10 30 "CardTabulator$Totals" "cards" "I", Cond.fieldLink RX10 33 "CardTabulator$Totals" "hours" "I", Cond.fieldLink RX10 36 "CardTabulator$Totals" "wages" "I", Cond.fieldLink RX10 39 "CardTabulator$Totals" "overtime" "I"]
def wsL_law_r19 : List Cond := [Cond.methodLink RX11 208 yX11_feedDeck, Cond.instanceMethod yX11_feedDeck, Cond.selects RX11 yX11_feedDeck yX11_feedDeck, Cond.code yX11_feedDeck cX11_feedDeck 9 (some .int), Cond.constantLong RX11 308 (-1), Cond.methodLink RX11 310 yX11_refusal, Cond.instanceMethod yX11_refusal, Cond.selects RX11 yX11_refusal yX11_refusal, Cond.code yX11_refusal cX11_refusal 6 (some .int), Cond.methodLink RX11 254 yX11_faultOfCard, Cond.instanceMethod yX11_faultOfCard, Cond.selects RX11 yX11_faultOfCard yX11_faultOfCard, Cond.code yX11_faultOfCard cX11_faultOfCard 2 (some .int), Cond.fieldLink RX11 336 "CardTabulator$Totals" "hours" "I", Cond.methodLink RX11 328 yX0_readFrom, Cond.instanceMethod yX0_readFrom, Cond.selects RX0 yX0_readFrom yX0_readFrom, Cond.code yX0_readFrom cX0_readFrom 2 none, Cond.methodLink RX0 30 yX0_copyFrom, Cond.methodLink RX0 40 yX0_show, Cond.methodLink RX11 332 yX10_fillFrom, Cond.instanceMethod yX10_fillFrom, Cond.selects RX10 yX10_fillFrom yX10_fillFrom, Cond.code yX10_fillFrom cX10_fillFrom 3 (some .boolean)]
def wsL_law_r20 : List Cond := [Cond.constant RX10 48 (-1000009), Cond.methodLink RX10 42 yX3_valueOn, Cond.methodLink RX11 250 yX3_valueOn, Cond.methodLink RX11 144 yX3_dueOn, Cond.instanceMethod yX3_dueOn, Cond.selects RX3 yX3_dueOn yX3_dueOn, Cond.code yX3_dueOn cX3_dueOn 4 (some .int), Cond.methodLink RX3 35 yX3_weighedDigits, Cond.instanceMethod yX3_weighedDigits, Cond.selects RX3 yX3_weighedDigits yX3_weighedDigits, Cond.code yX3_weighedDigits cX3_weighedDigits 8 (some .int), Cond.methodLink RX11 314 yX10_key, Cond.instanceMethod yX10_key, Cond.selects RX10 yX10_key yX10_key, Cond.code yX10_key cX10_key 1 (some .long), Cond.methodLink RX10 23 yX10_keyOf, Cond.methodLink RX11 318 yX11_printJudged, Cond.instanceMethod yX11_printJudged, Cond.selects RX11 yX11_printJudged yX11_printJudged, Cond.code yX11_printJudged cX11_printJudged 3 none, Cond.methodLink RX11 321 yX5_judge, Cond.instanceMethod yX5_judge, Cond.selects RX5 yX5_judge yX5_judge, Cond.code yX5_judge cX5_judge 3 none]
def wsL_law_r21 : List Cond := [Cond.methodLink RX11 324 yX4_accept, Cond.instanceMethod yX4_accept, Cond.selects RX4 yX4_accept yX4_accept, Cond.code yX4_accept cX4_accept 4 none, Cond.fieldLink RX4 30 "CardTabulator$Totals" "cards" "I", Cond.methodLink RX4 34 yX10_key, Cond.methodLink RX4 38 yX4_breakBefore, Cond.instanceMethod yX4_breakBefore, Cond.selects RX4 yX4_breakBefore yX4_breakBefore, Cond.code yX4_breakBefore cX4_breakBefore 4 none, Cond.fieldLink RX4 63 "CardTabulator$Totals" "department" "I", Cond.fieldLink RX4 65 "CardTabulator$Totals" "group" "I", Cond.methodLink RX4 52 yX4_breakWorker, Cond.instanceMethod yX4_breakWorker, Cond.selects RX4 yX4_breakWorker yX4_breakWorker, Cond.code yX4_breakWorker cX4_breakWorker 3 none, Cond.fieldLink RX4 67 "CardTabulator$Report" "limit" "I", Cond.constant RX4 62 (-1000009), Cond.methodLink RX4 70 yX10_overtimeBeyond, Cond.instanceMethod yX10_overtimeBeyond, Cond.selects RX10 yX10_overtimeBeyond yX10_overtimeBeyond, Cond.code yX10_overtimeBeyond cX10_overtimeBeyond 2 (some .int), Cond.constantLong RX10 49 (20), Cond.methodLink RX4 74 yX10_addOvertime]
def wsL_law_r22 : List Cond := [Cond.instanceMethod yX10_addOvertime, Cond.selects RX10 yX10_addOvertime yX10_addOvertime, Cond.code yX10_addOvertime cX10_addOvertime 2 none, Cond.methodLink RX4 42 yX5_print, Cond.instanceMethod yX5_print, Cond.selects RX5 yX5_print yX5_print, Cond.code yX5_print cX5_print 5 none, Cond.fieldLink RX5 56 "CardTabulator$Totals" "department" "I", Cond.constant RX5 61 (-1000009), Cond.fieldLink RX5 62 "CardTabulator$Totals" "group" "I", Cond.fieldLink RX5 65 "CardTabulator$Totals" "worker" "I", Cond.fieldLink RX5 68 "CardTabulator$Totals" "cards" "I", Cond.fieldLink RX5 71 "CardTabulator$Totals" "hours" "I", Cond.fieldLink RX5 74 "CardTabulator$Totals" "wages" "I", Cond.fieldLink RX5 77 "CardTabulator$Totals" "overtime" "I", Cond.fieldLink RX5 80 "CardTabulator$Totals" "rate" "I", Cond.methodLink RX4 56 yX4_breakGroup, Cond.instanceMethod yX4_breakGroup, Cond.selects RX4 yX4_breakGroup yX4_breakGroup, Cond.code yX4_breakGroup cX4_breakGroup 2 none, Cond.methodLink RX4 59 yX4_breakDepartment, Cond.instanceMethod yX4_breakDepartment, Cond.selects RX4 yX4_breakDepartment yX4_breakDepartment, Cond.code yX4_breakDepartment cX4_breakDepartment 2 none]
def wsL_law_r23 : List Cond := [Cond.methodLink RX4 48 yX10_addCard, Cond.instanceMethod yX10_addCard, Cond.selects RX10 yX10_addCard yX10_addCard, Cond.code yX10_addCard cX10_addCard 2 none, Cond.methodLink RX11 212 yX4_end, Cond.instanceMethod yX4_end, Cond.selects RX4 yX4_end yX4_end, Cond.code yX4_end cX4_end 2 none, Cond.methodLink RL 64 yX11_undo, Cond.instanceMethod yX11_undo, Cond.selects RX11 yX11_undo yX11_undo, Cond.code yX11_undo cX11_undo 1 (some .int), Cond.constant RX11 134 (-1000002), Cond.methodLink RX11 216 yX2_isEmpty, Cond.instanceMethod yX2_isEmpty, Cond.selects RX2 yX2_isEmpty yX2_isEmpty, Cond.code yX2_isEmpty cX2_isEmpty 1 (some .boolean), Cond.methodLink RX11 220 yX2_restoreInto, Cond.instanceMethod yX2_restoreInto, Cond.selects RX2 yX2_restoreInto yX2_restoreInto, Cond.code yX2_restoreInto cX2_restoreInto 2 none, Cond.methodLink RL 67 yX11_keep, Cond.instanceMethod yX11_keep, Cond.selects RX11 yX11_keep yX11_keep]
def wsL_law_r24 : List Cond := [Cond.code yX11_keep cX11_keep 3 (some .int), Cond.methodLink RX11 305 yX8_copyFrom, Cond.methodLink RL 70 yX11_back, Cond.instanceMethod yX11_back, Cond.selects RX11 yX11_back yX11_back, Cond.code yX11_back cX11_back 3 (some .int), Cond.methodLink RL 73 yL_write, Cond.static yL_write, Cond.code yL_write cL_write 3 (some .int), Cond.methodLink RL 15 yX11_wipe, Cond.instanceMethod yX11_wipe, Cond.selects RX11 yX11_wipe yX11_wipe, Cond.code yX11_wipe cX11_wipe 2 (some .int), Cond.methodLink RX11 228 yX9_clear, Cond.instanceMethod yX9_clear, Cond.selects RX9 yX9_clear yX9_clear, Cond.code yX9_clear cX9_clear 1 none, Cond.methodLink RL 25 yL_number, Cond.static yL_number, Cond.code yL_number cL_number 4 (some .int), Cond.methodLink RL 9 yX11_write, Cond.instanceMethod yX11_write, Cond.selects RX11 yX11_write yX11_write, Cond.code yX11_write cX11_write 2 (some .int)]
def wsL_law_r25 : List Cond := [Cond.constant RX11 135 (-1000003), Cond.methodLink RX11 225 yX9_append, Cond.instanceMethod yX9_append, Cond.selects RX9 yX9_append yX9_append, Cond.code yX9_append cX9_append 2 none, Cond.methodLink RL 76 yX11_punch, Cond.instanceMethod yX11_punch, Cond.selects RX11 yX11_punch yX11_punch, Cond.code yX11_punch cX11_punch 3 (some .int), Cond.methodLink RX11 130 yX9_readsAsCard, Cond.instanceMethod yX9_readsAsCard, Cond.selects RX9 yX9_readsAsCard yX9_readsAsCard, Cond.code yX9_readsAsCard cX9_readsAsCard 4 (some .boolean), Cond.fieldLink RX9 32 "CardTabulator$Text" "word" "I", Cond.methodLink RX9 35 yX9_readBetweenWords, Cond.instanceMethod yX9_readBetweenWords, Cond.selects RX9 yX9_readBetweenWords yX9_readBetweenWords, Cond.code yX9_readBetweenWords cX9_readBetweenWords 4 (some .int), Cond.methodLink RX9 54 yX9_at, Cond.instanceMethod yX9_at, Cond.selects RX9 yX9_at yX9_at, Cond.code yX9_at cX9_at 2 (some .int), Cond.methodLink RX9 57 yX9_fieldOf, Cond.static yX9_fieldOf]
def wsL_law_r26 : List Cond := [Cond.code yX9_fieldOf cX9_fieldOf 1 (some .int), Cond.methodLink RX9 60 yX9_digitsOf, Cond.instanceMethod yX9_digitsOf, Cond.selects RX9 yX9_digitsOf yX9_digitsOf, Cond.code yX9_digitsOf cX9_digitsOf 2 (some .int), Cond.methodLink RX9 63 yX9_isTextField, Cond.static yX9_isTextField, Cond.code yX9_isTextField cX9_isTextField 1 (some .boolean), Cond.methodLink RX9 39 yX9_readInWord, Cond.instanceMethod yX9_readInWord, Cond.selects RX9 yX9_readInWord yX9_readInWord, Cond.code yX9_readInWord cX9_readInWord 4 (some .int), Cond.methodLink RX9 71 yX3_widthOf, Cond.methodLink RX9 76 yX9_countDigit, Cond.instanceMethod yX9_countDigit, Cond.selects RX9 yX9_countDigit yX9_countDigit, Cond.code yX9_countDigit cX9_countDigit 2 (some .int), Cond.methodLink RX9 43 yX9_noteFault, Cond.instanceMethod yX9_noteFault, Cond.selects RX9 yX9_noteFault yX9_noteFault, Cond.code yX9_noteFault cX9_noteFault 3 (some .boolean), Cond.methodLink RX9 47 yX9_hasWord, Cond.instanceMethod yX9_hasWord, Cond.selects RX9 yX9_hasWord yX9_hasWord]
def wsL_law_r27 : List Cond := [Cond.code yX9_hasWord cX9_hasWord 2 (some .boolean), Cond.methodLink RX9 51 yX9_endsBehindLetter, Cond.instanceMethod yX9_endsBehindLetter, Cond.selects RX9 yX9_endsBehindLetter yX9_endsBehindLetter, Cond.code yX9_endsBehindLetter cX9_endsBehindLetter 1 (some .boolean), Cond.methodLink RX11 136 yX1_insertBlank, Cond.instanceMethod yX1_insertBlank, Cond.selects RX1 yX1_insertBlank yX1_insertBlank, Cond.code yX1_insertBlank cX1_insertBlank 3 (some (.object "CardTabulator$Card")), Cond.methodLink RX1 30 yX0_clear, Cond.methodLink RX11 140 yX9_punchOn, Cond.instanceMethod yX9_punchOn, Cond.selects RX9 yX9_punchOn yX9_punchOn, Cond.code yX9_punchOn cX9_punchOn 4 none, Cond.methodLink RX9 79 yX9_punchNumber, Cond.instanceMethod yX9_punchNumber, Cond.selects RX9 yX9_punchNumber yX9_punchNumber, Cond.code yX9_punchNumber cX9_punchNumber 8 none, Cond.methodLink RX9 83 yX3_firstOf, Cond.methodLink RX9 86 yX0_show, Cond.methodLink RL 122 yL_isReport, Cond.static yL_isReport, Cond.code yL_isReport cL_isReport 9 (some .boolean), Cond.constant RL 95 (-1000001)]
def wsL_law_r28 : List Cond := [Cond.methodLink RL 79 yX11_agrees, Cond.instanceMethod yX11_agrees, Cond.selects RX11 yX11_agrees yX11_agrees, Cond.code yX11_agrees cX11_agrees 2 (some .int), Cond.methodLink RX11 271 yX6_reckon, Cond.instanceMethod yX6_reckon, Cond.selects RX6 yX6_reckon yX6_reckon, Cond.code yX6_reckon cX6_reckon 3 none, Cond.fieldLink RX6 25 "CardTabulator$SecondWay" "count" "I", Cond.fieldLink RX6 29 "CardTabulator$Report" "lineCount" "I", Cond.fieldLink RX6 58 "CardTabulator$Report" "limit" "I", Cond.methodLink RX6 34 yX5_isCard, Cond.instanceMethod yX5_isCard, Cond.selects RX5 yX5_isCard yX5_isCard, Cond.code yX5_isCard cX5_isCard 2 (some .boolean), Cond.methodLink RX6 38 yX5_readCard, Cond.instanceMethod yX5_readCard, Cond.selects RX5 yX5_readCard yX5_readCard, Cond.code yX5_readCard cX5_readCard 3 none, Cond.methodLink RX6 42 yX10_key, Cond.methodLink RX6 46 yX6_ofKey, Cond.instanceMethod yX6_ofKey, Cond.selects RX6 yX6_ofKey yX6_ofKey, Cond.code yX6_ofKey cX6_ofKey 4 (some (.object "CardTabulator$Totals"))]
def wsL_law_r29 : List Cond := [Cond.methodLink RX6 54 yX6_at, Cond.instanceMethod yX6_at, Cond.selects RX6 yX6_at yX6_at, Cond.code yX6_at cX6_at 3 (some (.object "CardTabulator$Totals")), Cond.methodLink RX6 69 yX10_clear, Cond.methodLink RX6 50 yX10_addCard, Cond.methodLink RX6 61 yX10_overtimeBeyond, Cond.methodLink RX6 65 yX10_addOvertime, Cond.methodLink RX11 274 yX6_sum, Cond.instanceMethod yX6_sum, Cond.selects RX6 yX6_sum yX6_sum, Cond.code yX6_sum cX6_sum 5 (some .int), Cond.fieldLink RX6 72 "CardTabulator$Totals" "department" "I", Cond.methodLink RX6 75 yX6_numberOf, Cond.static yX6_numberOf, Cond.code yX6_numberOf cX6_numberOf 2 (some .int), Cond.fieldLink RX6 79 "CardTabulator$Totals" "cards" "I", Cond.fieldLink RX6 82 "CardTabulator$Totals" "hours" "I", Cond.fieldLink RX6 85 "CardTabulator$Totals" "wages" "I", Cond.fieldLink RX6 88 "CardTabulator$Totals" "overtime" "I", Cond.methodLink RL 82 yX11_mean, Cond.instanceMethod yX11_mean, Cond.selects RX11 yX11_mean yX11_mean, Cond.code yX11_mean cX11_mean 2 (some .float)]
def wsL_law_r30 : List Cond := [Cond.constantLong RX11 296 (10), Cond.methodLink RL 86 yX11_again, Cond.instanceMethod yX11_again, Cond.selects RX11 yX11_again yX11_again, Cond.code yX11_again cX11_again 3 (some .int), Cond.methodLink RL 89 yX11_line, Cond.instanceMethod yX11_line, Cond.selects RX11 yX11_line yX11_line, Cond.code yX11_line cX11_line 3 (some .int), Cond.methodLink RX11 257 yX5_has, Cond.methodLink RX11 258 yX5_number, Cond.methodLink RL 92 yX11_reason, Cond.instanceMethod yX11_reason, Cond.selects RX11 yX11_reason yX11_reason, Cond.code yX11_reason cX11_reason 2 (some .int), Cond.methodLink RX11 262 yX5_hadCard, Cond.methodLink RX11 265 yX5_reasonOf, Cond.methodLink RL 126 yL_isAgain, Cond.static yL_isAgain, Cond.code yL_isAgain cL_isAgain 9 (some .boolean), Cond.methodLink RL 96 yX11_ranked, Cond.instanceMethod yX11_ranked, Cond.selects RX11 yX11_ranked yX11_ranked, Cond.code yX11_ranked cX11_ranked 4 (some .int)]
def wsL_law_r31 : List Cond := [Cond.fieldLink RX11 284 "CardTabulator$Totals" "department" "I", Cond.fieldLink RX11 287 "CardTabulator$Totals" "group" "I", Cond.fieldLink RX11 290 "CardTabulator$Totals" "worker" "I", Cond.fieldLink RX11 293 "CardTabulator$Totals" "wages" "I", Cond.methodLink RX11 277 yX6_size, Cond.instanceMethod yX6_size, Cond.selects RX6 yX6_size yX6_size, Cond.code yX6_size cX6_size 1 (some .int), Cond.methodLink RX11 278 yX6_rank, Cond.instanceMethod yX6_rank, Cond.selects RX6 yX6_rank yX6_rank, Cond.code yX6_rank cX6_rank 4 none, Cond.methodLink RX6 91 yX6_isAhead, Cond.static yX6_isAhead, Cond.code yX6_isAhead cX6_isAhead 2 (some .boolean), Cond.methodLink RX6 95 yX6_put, Cond.instanceMethod yX6_put, Cond.selects RX6 yX6_put yX6_put, Cond.code yX6_put cX6_put 3 none, Cond.methodLink RX11 281 yX6_at, Cond.methodLink RL 99 yX11_differs, Cond.instanceMethod yX11_differs, Cond.selects RX11 yX11_differs yX11_differs, Cond.code yX11_differs cX11_differs 2 (some .int)]
def wsL_law_r32 : List Cond := [Cond.methodLink RX11 268 yX11_acceptedTotal, Cond.instanceMethod yX11_acceptedTotal, Cond.selects RX11 yX11_acceptedTotal yX11_acceptedTotal, Cond.code yX11_acceptedTotal cX11_acceptedTotal 2 (some .int), Cond.methodLink RX11 339 yX5_sumOfWorkers, Cond.instanceMethod yX5_sumOfWorkers, Cond.selects RX5 yX5_sumOfWorkers yX5_sumOfWorkers, Cond.code yX5_sumOfWorkers cX5_sumOfWorkers 3 (some .int), Cond.methodLink RX5 53 yX5_isCard, Cond.methodLink RL 129 yL_isSorted, Cond.static yL_isSorted, Cond.code yL_isSorted cL_isSorted 5 (some .boolean), Cond.methodLink RL 102 yX11_passes, Cond.instanceMethod yX11_passes, Cond.selects RX11 yX11_passes yX11_passes, Cond.code yX11_passes cX11_passes 3 (some .int), Cond.methodLink RX11 298 yX11_passByKeyColumns, Cond.instanceMethod yX11_passByKeyColumns, Cond.selects RX11 yX11_passByKeyColumns yX11_passByKeyColumns, Cond.code yX11_passByKeyColumns cX11_passByKeyColumns 5 none, Cond.methodLink RL 132 yL_isAccepted, Cond.static yL_isAccepted, Cond.code yL_isAccepted cL_isAccepted 11 (some .boolean), Cond.methodLink RL 105 yX11_accepts]
def wsL_law_r33 : List Cond := [Cond.instanceMethod yX11_accepts, Cond.selects RX11 yX11_accepts yX11_accepts, Cond.code yX11_accepts cX11_accepts 2 (some .int), Cond.methodLink RL 108 yX11_card, Cond.instanceMethod yX11_card, Cond.selects RX11 yX11_card yX11_card, Cond.code yX11_card cX11_card 4 (some .int), Cond.methodLink RL 111 yX11_setting, Cond.instanceMethod yX11_setting, Cond.selects RX11 yX11_setting yX11_setting, Cond.code yX11_setting cX11_setting 2 (some .int), Cond.methodLink RL 136 yL_areAlike, Cond.static yL_areAlike, Cond.code yL_areAlike cL_areAlike 5 (some .boolean)]
def wsL_law : List Cond := (wsL_law_r1 ++ (wsL_law_r2 ++ (wsL_law_r3 ++ (wsL_law_r4 ++ (wsL_law_r5 ++ (wsL_law_r6 ++ (wsL_law_r7 ++ (wsL_law_r8 ++ (wsL_law_r9 ++ (wsL_law_r10 ++ (wsL_law_r11 ++ (wsL_law_r12 ++ (wsL_law_r13 ++ (wsL_law_r14 ++ (wsL_law_r15 ++ (wsL_law_r16 ++ (wsL_law_r17 ++ (wsL_law_r18 ++ (wsL_law_r19 ++ (wsL_law_r20 ++ (wsL_law_r21 ++ (wsL_law_r22 ++ (wsL_law_r23 ++ (wsL_law_r24 ++ (wsL_law_r25 ++ (wsL_law_r26 ++ (wsL_law_r27 ++ (wsL_law_r28 ++ (wsL_law_r29 ++ (wsL_law_r30 ++ (wsL_law_r31 ++ (wsL_law_r32 ++ wsL_law_r33)))))))))))))))))))))))))))))))) ++ wsX110 ++ wsX80 ++ wsX20 ++ wsX90 ++ wsX70 ++ wsX40 ++ wsX60 ++ wsX00 ++ wsX100 ++ wsX30 ++ wsX10 ++ wsX50 ++ ([] : List Cond)
theorem inlX0 : ∀ w ∈ wsX00, w ∈ wsL_law := fun _ h => List.mem_append_left _ (List.mem_append_left _ (List.mem_append_left _ (List.mem_append_left _ (List.mem_append_left _ (List.mem_append_right _ h)))))
theorem inlX1 : ∀ w ∈ wsX10, w ∈ wsL_law := fun _ h => List.mem_append_left _ (List.mem_append_left _ (List.mem_append_right _ h))
theorem inlX2 : ∀ w ∈ wsX20, w ∈ wsL_law := fun _ h => List.mem_append_left _ (List.mem_append_left _ (List.mem_append_left _ (List.mem_append_left _ (List.mem_append_left _ (List.mem_append_left _ (List.mem_append_left _ (List.mem_append_left _ (List.mem_append_left _ (List.mem_append_left _ (List.mem_append_right _ h))))))))))
theorem inlX3 : ∀ w ∈ wsX30, w ∈ wsL_law := fun _ h => List.mem_append_left _ (List.mem_append_left _ (List.mem_append_left _ (List.mem_append_right _ h)))
theorem inlX4 : ∀ w ∈ wsX40, w ∈ wsL_law := fun _ h => List.mem_append_left _ (List.mem_append_left _ (List.mem_append_left _ (List.mem_append_left _ (List.mem_append_left _ (List.mem_append_left _ (List.mem_append_left _ (List.mem_append_right _ h)))))))
theorem inlX5 : ∀ w ∈ wsX50, w ∈ wsL_law := fun _ h => List.mem_append_left _ (List.mem_append_right _ h)
theorem inlX6 : ∀ w ∈ wsX60, w ∈ wsL_law := fun _ h => List.mem_append_left _ (List.mem_append_left _ (List.mem_append_left _ (List.mem_append_left _ (List.mem_append_left _ (List.mem_append_left _ (List.mem_append_right _ h))))))
theorem inlX7 : ∀ w ∈ wsX70, w ∈ wsL_law := fun _ h => List.mem_append_left _ (List.mem_append_left _ (List.mem_append_left _ (List.mem_append_left _ (List.mem_append_left _ (List.mem_append_left _ (List.mem_append_left _ (List.mem_append_left _ (List.mem_append_right _ h))))))))
theorem inlX8 : ∀ w ∈ wsX80, w ∈ wsL_law := fun _ h => List.mem_append_left _ (List.mem_append_left _ (List.mem_append_left _ (List.mem_append_left _ (List.mem_append_left _ (List.mem_append_left _ (List.mem_append_left _ (List.mem_append_left _ (List.mem_append_left _ (List.mem_append_left _ (List.mem_append_left _ (List.mem_append_right _ h)))))))))))
theorem inlX9 : ∀ w ∈ wsX90, w ∈ wsL_law := fun _ h => List.mem_append_left _ (List.mem_append_left _ (List.mem_append_left _ (List.mem_append_left _ (List.mem_append_left _ (List.mem_append_left _ (List.mem_append_left _ (List.mem_append_left _ (List.mem_append_left _ (List.mem_append_right _ h)))))))))
theorem inlX10 : ∀ w ∈ wsX100, w ∈ wsL_law := fun _ h => List.mem_append_left _ (List.mem_append_left _ (List.mem_append_left _ (List.mem_append_left _ (List.mem_append_right _ h))))
theorem inlX11 : ∀ w ∈ wsX110, w ∈ wsL_law := fun _ h => List.mem_append_left _ (List.mem_append_left _ (List.mem_append_left _ (List.mem_append_left _ (List.mem_append_left _ (List.mem_append_left _ (List.mem_append_left _ (List.mem_append_left _ (List.mem_append_left _ (List.mem_append_left _ (List.mem_append_left _ (List.mem_append_left _ (List.mem_append_right _ h))))))))))))
abbrev vwCl : List vw_C := [(RX0, TX0, 3), (RX1, TX1, 3), (RX2, TX2, 3), (RX3, TX3, 2), (RX4, TX4, 4), (RX5, TX5, 5), (RX6, TX6, 4), (RX7, TX7, 5), (RX8, TX8, 5), (RX9, TX9, 7), (RX10, TX10, 8), (RX11, TX11, 9)]
