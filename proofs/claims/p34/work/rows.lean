section
-- ===== PART A: goes FIRST, ahead of the names: the tables' words, and 'selects' of the private methods out of them =====
/-- a private method of a class that the tables say can be made, by its rows of tables_1 -/
def lw_okq (q : MethodName × Nat) : Prop := (q.1.cls ≠ "java/lang/invoke/MethodHandle" ∧ q.1.cls ≠ "java/lang/invoke/VarHandle") ∧ Cond.instantiable q.1.cls q.2 ∈ tables_1 ∧ Cond.privateMethod q.1 ∈ tables_1 ∧ Cond.instanceMethod q.1 ∈ tables_1
theorem lw_p0 : lw_okq (⟨"CardTabulator", "isDeckInOrder", "()Z"⟩, 9) := ⟨⟨by decide +kernel, by decide +kernel⟩, List.mem_of_getElem? (i := 16) (by decide +kernel), List.mem_of_getElem? (i := 379) (by decide +kernel), List.mem_of_getElem? (i := 380) (by decide +kernel)⟩
theorem lw_p1 : lw_okq (⟨"CardTabulator$History", "at", "(I)LCardTabulator$State;"⟩, 3) := ⟨⟨by decide +kernel, by decide +kernel⟩, List.mem_of_getElem? (i := 132) (by decide +kernel), List.mem_of_getElem? (i := 455) (by decide +kernel), List.mem_of_getElem? (i := 456) (by decide +kernel)⟩
theorem lw_p2 : lw_okq (⟨"CardTabulator$Sorter", "findStarts", "(LCardTabulator$Deck;I)V"⟩, 5) := ⟨⟨by decide +kernel, by decide +kernel⟩, List.mem_of_getElem? (i := 179) (by decide +kernel), List.mem_of_getElem? (i := 569) (by decide +kernel), List.mem_of_getElem? (i := 570) (by decide +kernel)⟩
theorem lw_p3 : lw_okq (⟨"CardTabulator", "feedDeck", "(IZ)I"⟩, 9) := ⟨⟨by decide +kernel, by decide +kernel⟩, List.mem_of_getElem? (i := 16) (by decide +kernel), List.mem_of_getElem? (i := 606) (by decide +kernel), List.mem_of_getElem? (i := 607) (by decide +kernel)⟩
theorem lw_p4 : lw_okq (⟨"CardTabulator", "refusal", "(LCardTabulator$Card;IJ)I"⟩, 9) := ⟨⟨by decide +kernel, by decide +kernel⟩, List.mem_of_getElem? (i := 16) (by decide +kernel), List.mem_of_getElem? (i := 611) (by decide +kernel), List.mem_of_getElem? (i := 612) (by decide +kernel)⟩
theorem lw_p5 : lw_okq (⟨"CardTabulator", "faultOfCard", "(LCardTabulator$Card;)I"⟩, 9) := ⟨⟨by decide +kernel, by decide +kernel⟩, List.mem_of_getElem? (i := 16) (by decide +kernel), List.mem_of_getElem? (i := 615) (by decide +kernel), List.mem_of_getElem? (i := 616) (by decide +kernel)⟩
theorem lw_p6 : lw_okq (⟨"CardTabulator$Layout", "weighedDigits", "(LCardTabulator$Card;I)I"⟩, 2) := ⟨⟨by decide +kernel, by decide +kernel⟩, List.mem_of_getElem? (i := 30) (by decide +kernel), List.mem_of_getElem? (i := 636) (by decide +kernel), List.mem_of_getElem? (i := 637) (by decide +kernel)⟩
theorem lw_p7 : lw_okq (⟨"CardTabulator", "printJudged", "(II)V"⟩, 9) := ⟨⟨by decide +kernel, by decide +kernel⟩, List.mem_of_getElem? (i := 16) (by decide +kernel), List.mem_of_getElem? (i := 645) (by decide +kernel), List.mem_of_getElem? (i := 646) (by decide +kernel)⟩
theorem lw_p8 : lw_okq (⟨"CardTabulator$Printer", "breakBefore", "(LCardTabulator$Report;LCardTabulator$Totals;)V"⟩, 4) := ⟨⟨by decide +kernel, by decide +kernel⟩, List.mem_of_getElem? (i := 202) (by decide +kernel), List.mem_of_getElem? (i := 658) (by decide +kernel), List.mem_of_getElem? (i := 659) (by decide +kernel)⟩
theorem lw_p9 : lw_okq (⟨"CardTabulator$Printer", "breakWorker", "(LCardTabulator$Report;)V"⟩, 4) := ⟨⟨by decide +kernel, by decide +kernel⟩, List.mem_of_getElem? (i := 202) (by decide +kernel), List.mem_of_getElem? (i := 662) (by decide +kernel), List.mem_of_getElem? (i := 663) (by decide +kernel)⟩
theorem lw_p10 : lw_okq (⟨"CardTabulator$Printer", "breakGroup", "(LCardTabulator$Report;)V"⟩, 4) := ⟨⟨by decide +kernel, by decide +kernel⟩, List.mem_of_getElem? (i := 202) (by decide +kernel), List.mem_of_getElem? (i := 681) (by decide +kernel), List.mem_of_getElem? (i := 682) (by decide +kernel)⟩
theorem lw_p11 : lw_okq (⟨"CardTabulator$Printer", "breakDepartment", "(LCardTabulator$Report;)V"⟩, 4) := ⟨⟨by decide +kernel, by decide +kernel⟩, List.mem_of_getElem? (i := 202) (by decide +kernel), List.mem_of_getElem? (i := 685) (by decide +kernel), List.mem_of_getElem? (i := 686) (by decide +kernel)⟩
theorem lw_p12 : lw_okq (⟨"CardTabulator$Text", "readBetweenWords", "(I)I"⟩, 7) := ⟨⟨by decide +kernel, by decide +kernel⟩, List.mem_of_getElem? (i := 150) (by decide +kernel), List.mem_of_getElem? (i := 750) (by decide +kernel), List.mem_of_getElem? (i := 751) (by decide +kernel)⟩
theorem lw_p13 : lw_okq (⟨"CardTabulator$Text", "at", "(I)I"⟩, 7) := ⟨⟨by decide +kernel, by decide +kernel⟩, List.mem_of_getElem? (i := 150) (by decide +kernel), List.mem_of_getElem? (i := 754) (by decide +kernel), List.mem_of_getElem? (i := 755) (by decide +kernel)⟩
theorem lw_p14 : lw_okq (⟨"CardTabulator$Text", "digitsOf", "(I)I"⟩, 7) := ⟨⟨by decide +kernel, by decide +kernel⟩, List.mem_of_getElem? (i := 150) (by decide +kernel), List.mem_of_getElem? (i := 761) (by decide +kernel), List.mem_of_getElem? (i := 762) (by decide +kernel)⟩
theorem lw_p15 : lw_okq (⟨"CardTabulator$Text", "readInWord", "(ILCardTabulator$Layout;)I"⟩, 7) := ⟨⟨by decide +kernel, by decide +kernel⟩, List.mem_of_getElem? (i := 150) (by decide +kernel), List.mem_of_getElem? (i := 768) (by decide +kernel), List.mem_of_getElem? (i := 769) (by decide +kernel)⟩
def lw_privs_1 : List (MethodName × Nat) := [(⟨"CardTabulator", "isDeckInOrder", "()Z"⟩, 9), (⟨"CardTabulator$History", "at", "(I)LCardTabulator$State;"⟩, 3), (⟨"CardTabulator$Sorter", "findStarts", "(LCardTabulator$Deck;I)V"⟩, 5), (⟨"CardTabulator", "feedDeck", "(IZ)I"⟩, 9), (⟨"CardTabulator", "refusal", "(LCardTabulator$Card;IJ)I"⟩, 9), (⟨"CardTabulator", "faultOfCard", "(LCardTabulator$Card;)I"⟩, 9), (⟨"CardTabulator$Layout", "weighedDigits", "(LCardTabulator$Card;I)I"⟩, 2), (⟨"CardTabulator", "printJudged", "(II)V"⟩, 9), (⟨"CardTabulator$Printer", "breakBefore", "(LCardTabulator$Report;LCardTabulator$Totals;)V"⟩, 4), (⟨"CardTabulator$Printer", "breakWorker", "(LCardTabulator$Report;)V"⟩, 4), (⟨"CardTabulator$Printer", "breakGroup", "(LCardTabulator$Report;)V"⟩, 4), (⟨"CardTabulator$Printer", "breakDepartment", "(LCardTabulator$Report;)V"⟩, 4), (⟨"CardTabulator$Text", "readBetweenWords", "(I)I"⟩, 7), (⟨"CardTabulator$Text", "at", "(I)I"⟩, 7), (⟨"CardTabulator$Text", "digitsOf", "(I)I"⟩, 7), (⟨"CardTabulator$Text", "readInWord", "(ILCardTabulator$Layout;)I"⟩, 7)]
theorem lw_r1 : ∀ q ∈ lw_privs_1, lw_okq q := List.forall_mem_cons.mpr ⟨lw_p0, List.forall_mem_cons.mpr ⟨lw_p1, List.forall_mem_cons.mpr ⟨lw_p2, List.forall_mem_cons.mpr ⟨lw_p3, List.forall_mem_cons.mpr ⟨lw_p4, List.forall_mem_cons.mpr ⟨lw_p5, List.forall_mem_cons.mpr ⟨lw_p6, List.forall_mem_cons.mpr ⟨lw_p7, List.forall_mem_cons.mpr ⟨lw_p8, List.forall_mem_cons.mpr ⟨lw_p9, List.forall_mem_cons.mpr ⟨lw_p10, List.forall_mem_cons.mpr ⟨lw_p11, List.forall_mem_cons.mpr ⟨lw_p12, List.forall_mem_cons.mpr ⟨lw_p13, List.forall_mem_cons.mpr ⟨lw_p14, List.forall_mem_cons.mpr ⟨lw_p15, fun _ h => absurd h List.not_mem_nil⟩⟩⟩⟩⟩⟩⟩⟩⟩⟩⟩⟩⟩⟩⟩⟩
theorem lw_p16 : lw_okq (⟨"CardTabulator$Text", "countDigit", "(I)I"⟩, 7) := ⟨⟨by decide +kernel, by decide +kernel⟩, List.mem_of_getElem? (i := 150) (by decide +kernel), List.mem_of_getElem? (i := 774) (by decide +kernel), List.mem_of_getElem? (i := 775) (by decide +kernel)⟩
theorem lw_p17 : lw_okq (⟨"CardTabulator$Text", "noteFault", "(II)Z"⟩, 7) := ⟨⟨by decide +kernel, by decide +kernel⟩, List.mem_of_getElem? (i := 150) (by decide +kernel), List.mem_of_getElem? (i := 778) (by decide +kernel), List.mem_of_getElem? (i := 779) (by decide +kernel)⟩
theorem lw_p18 : lw_okq (⟨"CardTabulator$Text", "hasWord", "()Z"⟩, 7) := ⟨⟨by decide +kernel, by decide +kernel⟩, List.mem_of_getElem? (i := 150) (by decide +kernel), List.mem_of_getElem? (i := 782) (by decide +kernel), List.mem_of_getElem? (i := 783) (by decide +kernel)⟩
theorem lw_p19 : lw_okq (⟨"CardTabulator$Text", "endsBehindLetter", "()Z"⟩, 7) := ⟨⟨by decide +kernel, by decide +kernel⟩, List.mem_of_getElem? (i := 150) (by decide +kernel), List.mem_of_getElem? (i := 786) (by decide +kernel), List.mem_of_getElem? (i := 787) (by decide +kernel)⟩
theorem lw_p20 : lw_okq (⟨"CardTabulator$Text", "punchNumber", "(LCardTabulator$Card;LCardTabulator$Layout;I)V"⟩, 7) := ⟨⟨by decide +kernel, by decide +kernel⟩, List.mem_of_getElem? (i := 150) (by decide +kernel), List.mem_of_getElem? (i := 799) (by decide +kernel), List.mem_of_getElem? (i := 800) (by decide +kernel)⟩
theorem lw_p21 : lw_okq (⟨"CardTabulator$SecondWay", "ofKey", "(J)LCardTabulator$Totals;"⟩, 4) := ⟨⟨by decide +kernel, by decide +kernel⟩, List.mem_of_getElem? (i := 273) (by decide +kernel), List.mem_of_getElem? (i := 825) (by decide +kernel), List.mem_of_getElem? (i := 826) (by decide +kernel)⟩
theorem lw_p22 : lw_okq (⟨"CardTabulator$SecondWay", "put", "(ILCardTabulator$Totals;)V"⟩, 4) := ⟨⟨by decide +kernel, by decide +kernel⟩, List.mem_of_getElem? (i := 273) (by decide +kernel), List.mem_of_getElem? (i := 884) (by decide +kernel), List.mem_of_getElem? (i := 885) (by decide +kernel)⟩
theorem lw_p23 : lw_okq (⟨"CardTabulator", "acceptedTotal", "(I)I"⟩, 9) := ⟨⟨by decide +kernel, by decide +kernel⟩, List.mem_of_getElem? (i := 16) (by decide +kernel), List.mem_of_getElem? (i := 893) (by decide +kernel), List.mem_of_getElem? (i := 894) (by decide +kernel)⟩
theorem lw_p24 : lw_okq (⟨"CardTabulator", "passByKeyColumns", "(I)V"⟩, 9) := ⟨⟨by decide +kernel, by decide +kernel⟩, List.mem_of_getElem? (i := 16) (by decide +kernel), List.mem_of_getElem? (i := 909) (by decide +kernel), List.mem_of_getElem? (i := 910) (by decide +kernel)⟩
def lw_privs_2 : List (MethodName × Nat) := [(⟨"CardTabulator$Text", "countDigit", "(I)I"⟩, 7), (⟨"CardTabulator$Text", "noteFault", "(II)Z"⟩, 7), (⟨"CardTabulator$Text", "hasWord", "()Z"⟩, 7), (⟨"CardTabulator$Text", "endsBehindLetter", "()Z"⟩, 7), (⟨"CardTabulator$Text", "punchNumber", "(LCardTabulator$Card;LCardTabulator$Layout;I)V"⟩, 7), (⟨"CardTabulator$SecondWay", "ofKey", "(J)LCardTabulator$Totals;"⟩, 4), (⟨"CardTabulator$SecondWay", "put", "(ILCardTabulator$Totals;)V"⟩, 4), (⟨"CardTabulator", "acceptedTotal", "(I)I"⟩, 9), (⟨"CardTabulator", "passByKeyColumns", "(I)V"⟩, 9)]
theorem lw_r2 : ∀ q ∈ lw_privs_2, lw_okq q := List.forall_mem_cons.mpr ⟨lw_p16, List.forall_mem_cons.mpr ⟨lw_p17, List.forall_mem_cons.mpr ⟨lw_p18, List.forall_mem_cons.mpr ⟨lw_p19, List.forall_mem_cons.mpr ⟨lw_p20, List.forall_mem_cons.mpr ⟨lw_p21, List.forall_mem_cons.mpr ⟨lw_p22, List.forall_mem_cons.mpr ⟨lw_p23, List.forall_mem_cons.mpr ⟨lw_p24, fun _ h => absurd h List.not_mem_nil⟩⟩⟩⟩⟩⟩⟩⟩⟩
def lw_privs : List (MethodName × Nat) := lw_privs_1 ++ (lw_privs_2)
def lw_tbl : List Cond := k2_sels lw_privs ++ tables_1
theorem lw_privs_ok : ∀ q ∈ lw_privs, lw_okq q := by
  show ∀ q ∈ lw_privs_1 ++ (lw_privs_2), lw_okq q
  exact List.forall_mem_append.mpr ⟨lw_r1, lw_r2⟩
/-- the streams that the claim lets the run draw from -/
abbrev lw_cs : List Choice := [Jvm.Choice.named "NaN.bits"]
theorem lw_bits : nanBits ∈ lw_cs := by first | decide | exact List.mem_cons_self | simp [lw_cs, nanBits]
end
section
def RX0 : String := "CardTabulator$Card"
def TX0 : u_T := fun k => match k with
  | 0 => ("CardTabulator$Card", "columns", "[I", true)
  | 1 => ("CardTabulator$Card", "feeding", "I", false)
  | _ => ("CardTabulator$Card", "tornColumn", "I", false)
def tyX0 : Nat → FieldType := fun k => match k with
  | 0 => .array .int
  | 1 => .int
  | _ => .int
abbrev wsX00 : List Cond := u_ws RX0 TX0 3
theorem nmX0 : ∀ a, a < 3 → ∀ b, b < 3 → a ≠ b → (TX0 a).2.1 ≠ (TX0 b).2.1 := by decide +kernel
theorem tyX0_ok : ∀ k, k < 3 → parseFieldDescriptor (TX0 k).2.2.1 = some (tyX0 k) := by decide +kernel
abbrev cX0_init : ByteArray := prog_2_method_1_code
def yX0_init : MethodName := ⟨RX0, "<init>", "()V"⟩
abbrev cX0_clear : ByteArray := prog_2_method_2_code
def yX0_clear : MethodName := ⟨RX0, "clear", "()V"⟩
abbrev cX0_shows : ByteArray := prog_2_method_3_code
def yX0_shows : MethodName := ⟨RX0, "shows", "(I)I"⟩
abbrev cX0_show : ByteArray := prog_2_method_4_code
def yX0_show : MethodName := ⟨RX0, "show", "(II)V"⟩
abbrev cX0_readFrom : ByteArray := prog_2_method_5_code
def yX0_readFrom : MethodName := ⟨RX0, "readFrom", "(LCardTabulator$Card;)V"⟩
abbrev cX0_copyFrom : ByteArray := prog_2_method_6_code
def yX0_copyFrom : MethodName := ⟨RX0, "copyFrom", "(LCardTabulator$Card;)V"⟩
def RX1 : String := "CardTabulator$Deck"
def TX1 : u_T := fun k => match k with
  | 0 => ("CardTabulator$Deck", "cards", "[LCardTabulator$Card;", true)
  | 1 => ("CardTabulator$Deck", "stray", "LCardTabulator$Card;", true)
  | _ => ("CardTabulator$Deck", "count", "I", false)
def tyX1 : Nat → FieldType := fun k => match k with
  | 0 => .array (.object "CardTabulator$Card")
  | 1 => .object "CardTabulator$Card"
  | _ => .int
abbrev wsX10 : List Cond := u_ws RX1 TX1 3
theorem nmX1 : ∀ a, a < 3 → ∀ b, b < 3 → a ≠ b → (TX1 a).2.1 ≠ (TX1 b).2.1 := by decide +kernel
theorem tyX1_ok : ∀ k, k < 3 → parseFieldDescriptor (TX1 k).2.2.1 = some (tyX1 k) := by decide +kernel
abbrev cX1_init : ByteArray := prog_3_method_1_code
def yX1_init : MethodName := ⟨RX1, "<init>", "()V"⟩
abbrev cX1_size : ByteArray := prog_3_method_2_code
def yX1_size : MethodName := ⟨RX1, "size", "()I"⟩
abbrev cX1_has : ByteArray := prog_3_method_3_code
def yX1_has : MethodName := ⟨RX1, "has", "(I)Z"⟩
abbrev cX1_at : ByteArray := prog_3_method_4_code
def yX1_at : MethodName := ⟨RX1, "at", "(I)LCardTabulator$Card;"⟩
abbrev cX1_put : ByteArray := prog_3_method_5_code
def yX1_put : MethodName := ⟨RX1, "put", "(ILCardTabulator$Card;)V"⟩
abbrev cX1_insertBlank : ByteArray := prog_3_method_6_code
def yX1_insertBlank : MethodName := ⟨RX1, "insertBlank", "(I)LCardTabulator$Card;"⟩
abbrev cX1_remove : ByteArray := prog_3_method_7_code
def yX1_remove : MethodName := ⟨RX1, "remove", "(I)V"⟩
abbrev cX1_carry : ByteArray := prog_3_method_8_code
def yX1_carry : MethodName := ⟨RX1, "carry", "(II)V"⟩
abbrev cX1_copyFrom : ByteArray := prog_3_method_9_code
def yX1_copyFrom : MethodName := ⟨RX1, "copyFrom", "(LCardTabulator$Deck;)V"⟩
def RX2 : String := "CardTabulator$History"
def TX2 : u_T := fun k => match k with
  | 0 => ("CardTabulator$History", "states", "[LCardTabulator$State;", true)
  | 1 => ("CardTabulator$History", "oldest", "I", false)
  | _ => ("CardTabulator$History", "count", "I", false)
def tyX2 : Nat → FieldType := fun k => match k with
  | 0 => .array (.object "CardTabulator$State")
  | 1 => .int
  | _ => .int
abbrev wsX20 : List Cond := u_ws RX2 TX2 3
theorem nmX2 : ∀ a, a < 3 → ∀ b, b < 3 → a ≠ b → (TX2 a).2.1 ≠ (TX2 b).2.1 := by decide +kernel
theorem tyX2_ok : ∀ k, k < 3 → parseFieldDescriptor (TX2 k).2.2.1 = some (tyX2 k) := by decide +kernel
abbrev cX2_init : ByteArray := prog_4_method_1_code
def yX2_init : MethodName := ⟨RX2, "<init>", "()V"⟩
abbrev cX2_size : ByteArray := prog_4_method_2_code
def yX2_size : MethodName := ⟨RX2, "size", "()I"⟩
abbrev cX2_isEmpty : ByteArray := prog_4_method_3_code
def yX2_isEmpty : MethodName := ⟨RX2, "isEmpty", "()Z"⟩
abbrev cX2_record : ByteArray := prog_4_method_4_code
def yX2_record : MethodName := ⟨RX2, "record", "(LCardTabulator$State;)V"⟩
abbrev cX2_restoreInto : ByteArray := prog_4_method_5_code
def yX2_restoreInto : MethodName := ⟨RX2, "restoreInto", "(LCardTabulator$State;)V"⟩
abbrev cX2_at : ByteArray := prog_4_method_6_code
def yX2_at : MethodName := ⟨RX2, "at", "(I)LCardTabulator$State;"⟩
def RX3 : String := "CardTabulator$Layout"
def TX3 : u_T := fun k => match k with
  | 0 => ("CardTabulator$Layout", "firsts", "[I", true)
  | _ => ("CardTabulator$Layout", "widths", "[I", true)
def tyX3 : Nat → FieldType := fun k => match k with
  | 0 => .array .int
  | _ => .array .int
abbrev wsX30 : List Cond := u_ws RX3 TX3 2
theorem nmX3 : ∀ a, a < 2 → ∀ b, b < 2 → a ≠ b → (TX3 a).2.1 ≠ (TX3 b).2.1 := by decide +kernel
theorem tyX3_ok : ∀ k, k < 2 → parseFieldDescriptor (TX3 k).2.2.1 = some (tyX3 k) := by decide +kernel
abbrev cX3_init : ByteArray := prog_5_method_1_code
def yX3_init : MethodName := ⟨RX3, "<init>", "()V"⟩
abbrev cX3_firstOf : ByteArray := prog_5_method_2_code
def yX3_firstOf : MethodName := ⟨RX3, "firstOf", "(I)I"⟩
abbrev cX3_widthOf : ByteArray := prog_5_method_3_code
def yX3_widthOf : MethodName := ⟨RX3, "widthOf", "(I)I"⟩
abbrev cX3_place : ByteArray := prog_5_method_4_code
def yX3_place : MethodName := ⟨RX3, "place", "(III)V"⟩
abbrev cX3_valueOn : ByteArray := prog_5_method_5_code
def yX3_valueOn : MethodName := ⟨RX3, "valueOn", "(LCardTabulator$Card;I)I"⟩
abbrev cX3_dueOn : ByteArray := prog_5_method_6_code
def yX3_dueOn : MethodName := ⟨RX3, "dueOn", "(LCardTabulator$Card;)I"⟩
abbrev cX3_weighedDigits : ByteArray := prog_5_method_7_code
def yX3_weighedDigits : MethodName := ⟨RX3, "weighedDigits", "(LCardTabulator$Card;I)I"⟩
abbrev cX3_keyOn : ByteArray := prog_5_method_8_code
def yX3_keyOn : MethodName := ⟨RX3, "keyOn", "(LCardTabulator$Card;)J"⟩
abbrev cX3_copyFrom : ByteArray := prog_5_method_9_code
def yX3_copyFrom : MethodName := ⟨RX3, "copyFrom", "(LCardTabulator$Layout;)V"⟩
def RX4 : String := "CardTabulator$Printer"
def TX4 : u_T := fun k => match k with
  | 0 => ("CardTabulator$Printer", "worker", "LCardTabulator$Totals;", true)
  | 1 => ("CardTabulator$Printer", "group", "LCardTabulator$Totals;", true)
  | 2 => ("CardTabulator$Printer", "department", "LCardTabulator$Totals;", true)
  | _ => ("CardTabulator$Printer", "all", "LCardTabulator$Totals;", true)
def tyX4 : Nat → FieldType := fun k => match k with
  | 0 => .object "CardTabulator$Totals"
  | 1 => .object "CardTabulator$Totals"
  | 2 => .object "CardTabulator$Totals"
  | _ => .object "CardTabulator$Totals"
abbrev wsX40 : List Cond := u_ws RX4 TX4 4
theorem nmX4 : ∀ a, a < 4 → ∀ b, b < 4 → a ≠ b → (TX4 a).2.1 ≠ (TX4 b).2.1 := by decide +kernel
theorem tyX4_ok : ∀ k, k < 4 → parseFieldDescriptor (TX4 k).2.2.1 = some (tyX4 k) := by decide +kernel
abbrev cX4_init : ByteArray := prog_6_method_1_code
def yX4_init : MethodName := ⟨RX4, "<init>", "()V"⟩
abbrev cX4_begin : ByteArray := prog_6_method_2_code
def yX4_begin : MethodName := ⟨RX4, "begin", "()V"⟩
abbrev cX4_accept : ByteArray := prog_6_method_3_code
def yX4_accept : MethodName := ⟨RX4, "accept", "(LCardTabulator$Report;LCardTabulator$Totals;I)V"⟩
abbrev cX4_end : ByteArray := prog_6_method_4_code
def yX4_end : MethodName := ⟨RX4, "end", "(LCardTabulator$Report;)V"⟩
abbrev cX4_breakBefore : ByteArray := prog_6_method_5_code
def yX4_breakBefore : MethodName := ⟨RX4, "breakBefore", "(LCardTabulator$Report;LCardTabulator$Totals;)V"⟩
abbrev cX4_breakWorker : ByteArray := prog_6_method_6_code
def yX4_breakWorker : MethodName := ⟨RX4, "breakWorker", "(LCardTabulator$Report;)V"⟩
abbrev cX4_breakGroup : ByteArray := prog_6_method_7_code
def yX4_breakGroup : MethodName := ⟨RX4, "breakGroup", "(LCardTabulator$Report;)V"⟩
abbrev cX4_breakDepartment : ByteArray := prog_6_method_8_code
def yX4_breakDepartment : MethodName := ⟨RX4, "breakDepartment", "(LCardTabulator$Report;)V"⟩
def RX5 : String := "CardTabulator$Report"
def TX5 : u_T := fun k => match k with
  | 0 => ("CardTabulator$Report", "lines", "[I", true)
  | 1 => ("CardTabulator$Report", "reasons", "[I", true)
  | 2 => ("CardTabulator$Report", "lineCount", "I", false)
  | 3 => ("CardTabulator$Report", "deckSize", "I", false)
  | _ => ("CardTabulator$Report", "limit", "I", false)
def tyX5 : Nat → FieldType := fun k => match k with
  | 0 => .array .int
  | 1 => .array .int
  | 2 => .int
  | 3 => .int
  | _ => .int
abbrev wsX50 : List Cond := u_ws RX5 TX5 5
theorem nmX5 : ∀ a, a < 5 → ∀ b, b < 5 → a ≠ b → (TX5 a).2.1 ≠ (TX5 b).2.1 := by decide +kernel
theorem tyX5_ok : ∀ k, k < 5 → parseFieldDescriptor (TX5 k).2.2.1 = some (tyX5 k) := by decide +kernel
abbrev cX5_init : ByteArray := prog_7_method_1_code
def yX5_init : MethodName := ⟨RX5, "<init>", "()V"⟩
abbrev cX5_begin : ByteArray := prog_7_method_2_code
def yX5_begin : MethodName := ⟨RX5, "begin", "(II)V"⟩
abbrev cX5_isEmpty : ByteArray := prog_7_method_3_code
def yX5_isEmpty : MethodName := ⟨RX5, "isEmpty", "()Z"⟩
abbrev cX5_has : ByteArray := prog_7_method_4_code
def yX5_has : MethodName := ⟨RX5, "has", "(I)Z"⟩
abbrev cX5_hadCard : ByteArray := prog_7_method_5_code
def yX5_hadCard : MethodName := ⟨RX5, "hadCard", "(I)Z"⟩
abbrev cX5_reasonOf : ByteArray := prog_7_method_6_code
def yX5_reasonOf : MethodName := ⟨RX5, "reasonOf", "(I)I"⟩
abbrev cX5_judge : ByteArray := prog_7_method_7_code
def yX5_judge : MethodName := ⟨RX5, "judge", "(II)V"⟩
abbrev cX5_refusedCards : ByteArray := prog_7_method_8_code
def yX5_refusedCards : MethodName := ⟨RX5, "refusedCards", "()I"⟩
abbrev cX5_number : ByteArray := prog_7_method_9_code
def yX5_number : MethodName := ⟨RX5, "number", "(II)I"⟩
abbrev cX5_lastLine : ByteArray := prog_7_method_10_code
def yX5_lastLine : MethodName := ⟨RX5, "lastLine", "(I)I"⟩
abbrev cX5_sumOfWorkers : ByteArray := prog_7_method_11_code
def yX5_sumOfWorkers : MethodName := ⟨RX5, "sumOfWorkers", "()I"⟩
abbrev cX5_isCard : ByteArray := prog_7_method_12_code
def yX5_isCard : MethodName := ⟨RX5, "isCard", "(I)Z"⟩
abbrev cX5_print : ByteArray := prog_7_method_13_code
def yX5_print : MethodName := ⟨RX5, "print", "(ILCardTabulator$Totals;I)V"⟩
abbrev cX5_readCard : ByteArray := prog_7_method_14_code
def yX5_readCard : MethodName := ⟨RX5, "readCard", "(ILCardTabulator$Totals;)V"⟩
abbrev cX5_copyFrom : ByteArray := prog_7_method_15_code
def yX5_copyFrom : MethodName := ⟨RX5, "copyFrom", "(LCardTabulator$Report;)V"⟩
def RX6 : String := "CardTabulator$SecondWay"
def TX6 : u_T := fun k => match k with
  | 0 => ("CardTabulator$SecondWay", "keys", "[LCardTabulator$Totals;", true)
  | 1 => ("CardTabulator$SecondWay", "stray", "LCardTabulator$Totals;", true)
  | 2 => ("CardTabulator$SecondWay", "slip", "LCardTabulator$Totals;", true)
  | _ => ("CardTabulator$SecondWay", "count", "I", false)
def tyX6 : Nat → FieldType := fun k => match k with
  | 0 => .array (.object "CardTabulator$Totals")
  | 1 => .object "CardTabulator$Totals"
  | 2 => .object "CardTabulator$Totals"
  | _ => .int
abbrev wsX60 : List Cond := u_ws RX6 TX6 4
theorem nmX6 : ∀ a, a < 4 → ∀ b, b < 4 → a ≠ b → (TX6 a).2.1 ≠ (TX6 b).2.1 := by decide +kernel
theorem tyX6_ok : ∀ k, k < 4 → parseFieldDescriptor (TX6 k).2.2.1 = some (tyX6 k) := by decide +kernel
abbrev cX6_init : ByteArray := prog_8_method_1_code
def yX6_init : MethodName := ⟨RX6, "<init>", "()V"⟩
abbrev cX6_size : ByteArray := prog_8_method_2_code
def yX6_size : MethodName := ⟨RX6, "size", "()I"⟩
abbrev cX6_at : ByteArray := prog_8_method_3_code
def yX6_at : MethodName := ⟨RX6, "at", "(I)LCardTabulator$Totals;"⟩
abbrev cX6_reckon : ByteArray := prog_8_method_4_code
def yX6_reckon : MethodName := ⟨RX6, "reckon", "(LCardTabulator$Report;)V"⟩
abbrev cX6_ofKey : ByteArray := prog_8_method_5_code
def yX6_ofKey : MethodName := ⟨RX6, "ofKey", "(J)LCardTabulator$Totals;"⟩
abbrev cX6_sum : ByteArray := prog_8_method_6_code
def yX6_sum : MethodName := ⟨RX6, "sum", "(II)I"⟩
abbrev cX6_numberOf : ByteArray := prog_8_method_7_code
def yX6_numberOf : MethodName := ⟨RX6, "numberOf", "(LCardTabulator$Totals;I)I"⟩
abbrev cX6_rank : ByteArray := prog_8_method_8_code
def yX6_rank : MethodName := ⟨RX6, "rank", "()V"⟩
abbrev cX6_put : ByteArray := prog_8_method_9_code
def yX6_put : MethodName := ⟨RX6, "put", "(ILCardTabulator$Totals;)V"⟩
abbrev cX6_isAhead : ByteArray := prog_8_method_10_code
def yX6_isAhead : MethodName := ⟨RX6, "isAhead", "(LCardTabulator$Totals;LCardTabulator$Totals;)Z"⟩
def RX7 : String := "CardTabulator$Sorter"
def TX7 : u_T := fun k => match k with
  | 0 => ("CardTabulator$Sorter", "order", "[I", true)
  | 1 => ("CardTabulator$Sorter", "sorted", "[I", true)
  | 2 => ("CardTabulator$Sorter", "starts", "[I", true)
  | 3 => ("CardTabulator$Sorter", "cards", "[LCardTabulator$Card;", true)
  | _ => ("CardTabulator$Sorter", "count", "I", false)
def tyX7 : Nat → FieldType := fun k => match k with
  | 0 => .array .int
  | 1 => .array .int
  | 2 => .array .int
  | 3 => .array (.object "CardTabulator$Card")
  | _ => .int
abbrev wsX70 : List Cond := u_ws RX7 TX7 5
theorem nmX7 : ∀ a, a < 5 → ∀ b, b < 5 → a ≠ b → (TX7 a).2.1 ≠ (TX7 b).2.1 := by decide +kernel
theorem tyX7_ok : ∀ k, k < 5 → parseFieldDescriptor (TX7 k).2.2.1 = some (tyX7 k) := by decide +kernel
abbrev cX7_init : ByteArray := prog_9_method_1_code
def yX7_init : MethodName := ⟨RX7, "<init>", "()V"⟩
abbrev cX7_begin : ByteArray := prog_9_method_2_code
def yX7_begin : MethodName := ⟨RX7, "begin", "(LCardTabulator$Deck;)V"⟩
abbrev cX7_passBy : ByteArray := prog_9_method_3_code
def yX7_passBy : MethodName := ⟨RX7, "passBy", "(LCardTabulator$Deck;I)V"⟩
abbrev cX7_findStarts : ByteArray := prog_9_method_4_code
def yX7_findStarts : MethodName := ⟨RX7, "findStarts", "(LCardTabulator$Deck;I)V"⟩
abbrev cX7_stackOf : ByteArray := prog_9_method_5_code
def yX7_stackOf : MethodName := ⟨RX7, "stackOf", "(LCardTabulator$Card;I)I"⟩
abbrev cX7_arrange : ByteArray := prog_9_method_6_code
def yX7_arrange : MethodName := ⟨RX7, "arrange", "(LCardTabulator$Deck;)I"⟩
abbrev cX7_isInKeyOrder : ByteArray := prog_9_method_7_code
def yX7_isInKeyOrder : MethodName := ⟨RX7, "isInKeyOrder", "(LCardTabulator$Deck;LCardTabulator$Layout;)Z"⟩
def RX8 : String := "CardTabulator$State"
def TX8 : u_T := fun k => match k with
  | 0 => ("CardTabulator$State", "layout", "LCardTabulator$Layout;", true)
  | 1 => ("CardTabulator$State", "deck", "LCardTabulator$Deck;", true)
  | 2 => ("CardTabulator$State", "report", "LCardTabulator$Report;", true)
  | 3 => ("CardTabulator$State", "settings", "[I", true)
  | _ => ("CardTabulator$State", "controls", "[I", true)
def tyX8 : Nat → FieldType := fun k => match k with
  | 0 => .object "CardTabulator$Layout"
  | 1 => .object "CardTabulator$Deck"
  | 2 => .object "CardTabulator$Report"
  | 3 => .array .int
  | _ => .array .int
abbrev wsX80 : List Cond := u_ws RX8 TX8 5
theorem nmX8 : ∀ a, a < 5 → ∀ b, b < 5 → a ≠ b → (TX8 a).2.1 ≠ (TX8 b).2.1 := by decide +kernel
theorem tyX8_ok : ∀ k, k < 5 → parseFieldDescriptor (TX8 k).2.2.1 = some (tyX8 k) := by decide +kernel
abbrev cX8_init : ByteArray := prog_10_method_1_code
def yX8_init : MethodName := ⟨RX8, "<init>", "()V"⟩
abbrev cX8_settingOf : ByteArray := prog_10_method_2_code
def yX8_settingOf : MethodName := ⟨RX8, "settingOf", "(I)I"⟩
abbrev cX8_copyFrom : ByteArray := prog_10_method_3_code
def yX8_copyFrom : MethodName := ⟨RX8, "copyFrom", "(LCardTabulator$State;)V"⟩
def RX9 : String := "CardTabulator$Text"
def TX9 : u_T := fun k => match k with
  | 0 => ("CardTabulator$Text", "bytes", "[I", true)
  | 1 => ("CardTabulator$Text", "digits", "[I", true)
  | 2 => ("CardTabulator$Text", "starts", "[I", true)
  | 3 => ("CardTabulator$Text", "length", "I", false)
  | 4 => ("CardTabulator$Text", "word", "I", false)
  | 5 => ("CardTabulator$Text", "faultKind", "I", false)
  | _ => ("CardTabulator$Text", "faultPlace", "I", false)
def tyX9 : Nat → FieldType := fun k => match k with
  | 0 => .array .int
  | 1 => .array .int
  | 2 => .array .int
  | 3 => .int
  | 4 => .int
  | 5 => .int
  | _ => .int
abbrev wsX90 : List Cond := u_ws RX9 TX9 7
theorem nmX9 : ∀ a, a < 7 → ∀ b, b < 7 → a ≠ b → (TX9 a).2.1 ≠ (TX9 b).2.1 := by decide +kernel
theorem tyX9_ok : ∀ k, k < 7 → parseFieldDescriptor (TX9 k).2.2.1 = some (tyX9 k) := by decide +kernel
abbrev cX9_init : ByteArray := prog_11_method_1_code
def yX9_init : MethodName := ⟨RX9, "<init>", "()V"⟩
abbrev cX9_size : ByteArray := prog_11_method_2_code
def yX9_size : MethodName := ⟨RX9, "size", "()I"⟩
abbrev cX9_clear : ByteArray := prog_11_method_3_code
def yX9_clear : MethodName := ⟨RX9, "clear", "()V"⟩
abbrev cX9_append : ByteArray := prog_11_method_4_code
def yX9_append : MethodName := ⟨RX9, "append", "(I)V"⟩
abbrev cX9_at : ByteArray := prog_11_method_5_code
def yX9_at : MethodName := ⟨RX9, "at", "(I)I"⟩
abbrev cX9_readsAsCard : ByteArray := prog_11_method_6_code
def yX9_readsAsCard : MethodName := ⟨RX9, "readsAsCard", "(LCardTabulator$Layout;)Z"⟩
abbrev cX9_noteFault : ByteArray := prog_11_method_7_code
def yX9_noteFault : MethodName := ⟨RX9, "noteFault", "(II)Z"⟩
abbrev cX9_readBetweenWords : ByteArray := prog_11_method_8_code
def yX9_readBetweenWords : MethodName := ⟨RX9, "readBetweenWords", "(I)I"⟩
abbrev cX9_readInWord : ByteArray := prog_11_method_9_code
def yX9_readInWord : MethodName := ⟨RX9, "readInWord", "(ILCardTabulator$Layout;)I"⟩
abbrev cX9_countDigit : ByteArray := prog_11_method_10_code
def yX9_countDigit : MethodName := ⟨RX9, "countDigit", "(I)I"⟩
abbrev cX9_hasWord : ByteArray := prog_11_method_11_code
def yX9_hasWord : MethodName := ⟨RX9, "hasWord", "()Z"⟩
abbrev cX9_endsBehindLetter : ByteArray := prog_11_method_12_code
def yX9_endsBehindLetter : MethodName := ⟨RX9, "endsBehindLetter", "()Z"⟩
abbrev cX9_digitsOf : ByteArray := prog_11_method_13_code
def yX9_digitsOf : MethodName := ⟨RX9, "digitsOf", "(I)I"⟩
abbrev cX9_isTextField : ByteArray := prog_11_method_14_code
def yX9_isTextField : MethodName := ⟨RX9, "isTextField", "(I)Z"⟩
abbrev cX9_fieldOf : ByteArray := prog_11_method_15_code
def yX9_fieldOf : MethodName := ⟨RX9, "fieldOf", "(I)I"⟩
abbrev cX9_punchOn : ByteArray := prog_11_method_16_code
def yX9_punchOn : MethodName := ⟨RX9, "punchOn", "(LCardTabulator$Card;LCardTabulator$Layout;)V"⟩
abbrev cX9_punchNumber : ByteArray := prog_11_method_17_code
def yX9_punchNumber : MethodName := ⟨RX9, "punchNumber", "(LCardTabulator$Card;LCardTabulator$Layout;I)V"⟩
def RX10 : String := "CardTabulator$Totals"
def TX10 : u_T := fun k => match k with
  | 0 => ("CardTabulator$Totals", "department", "I", false)
  | 1 => ("CardTabulator$Totals", "group", "I", false)
  | 2 => ("CardTabulator$Totals", "worker", "I", false)
  | 3 => ("CardTabulator$Totals", "rate", "I", false)
  | 4 => ("CardTabulator$Totals", "cards", "I", false)
  | 5 => ("CardTabulator$Totals", "hours", "I", false)
  | 6 => ("CardTabulator$Totals", "wages", "I", false)
  | _ => ("CardTabulator$Totals", "overtime", "I", false)
def tyX10 : Nat → FieldType := fun k => match k with
  | 0 => .int
  | 1 => .int
  | 2 => .int
  | 3 => .int
  | 4 => .int
  | 5 => .int
  | 6 => .int
  | _ => .int
abbrev wsX100 : List Cond := u_ws RX10 TX10 8
theorem nmX10 : ∀ a, a < 8 → ∀ b, b < 8 → a ≠ b → (TX10 a).2.1 ≠ (TX10 b).2.1 := by decide +kernel
theorem tyX10_ok : ∀ k, k < 8 → parseFieldDescriptor (TX10 k).2.2.1 = some (tyX10 k) := by decide +kernel
abbrev cX10_init : ByteArray := prog_12_method_1_code
def yX10_init : MethodName := ⟨RX10, "<init>", "()V"⟩
abbrev cX10_keyOf : ByteArray := prog_12_method_2_code
def yX10_keyOf : MethodName := ⟨RX10, "keyOf", "(III)J"⟩
abbrev cX10_key : ByteArray := prog_12_method_3_code
def yX10_key : MethodName := ⟨RX10, "key", "()J"⟩
abbrev cX10_clear : ByteArray := prog_12_method_4_code
def yX10_clear : MethodName := ⟨RX10, "clear", "()V"⟩
abbrev cX10_fillFrom : ByteArray := prog_12_method_5_code
def yX10_fillFrom : MethodName := ⟨RX10, "fillFrom", "(LCardTabulator$Card;LCardTabulator$Layout;)Z"⟩
abbrev cX10_addCard : ByteArray := prog_12_method_6_code
def yX10_addCard : MethodName := ⟨RX10, "addCard", "(LCardTabulator$Totals;)V"⟩
abbrev cX10_overtimeBeyond : ByteArray := prog_12_method_7_code
def yX10_overtimeBeyond : MethodName := ⟨RX10, "overtimeBeyond", "(I)I"⟩
abbrev cX10_addOvertime : ByteArray := prog_12_method_8_code
def yX10_addOvertime : MethodName := ⟨RX10, "addOvertime", "(I)V"⟩
def RX11 : String := "CardTabulator"
def TX11 : u_T := fun k => match k with
  | 0 => ("CardTabulator", "now", "LCardTabulator$State;", true)
  | 1 => ("CardTabulator", "past", "LCardTabulator$History;", true)
  | 2 => ("CardTabulator", "images", "[LCardTabulator$State;", true)
  | 3 => ("CardTabulator", "text", "LCardTabulator$Text;", true)
  | 4 => ("CardTabulator", "sorter", "LCardTabulator$Sorter;", true)
  | 5 => ("CardTabulator", "printer", "LCardTabulator$Printer;", true)
  | 6 => ("CardTabulator", "secondWay", "LCardTabulator$SecondWay;", true)
  | 7 => ("CardTabulator", "read", "LCardTabulator$Card;", true)
  | _ => ("CardTabulator", "slip", "LCardTabulator$Totals;", true)
def tyX11 : Nat → FieldType := fun k => match k with
  | 0 => .object "CardTabulator$State"
  | 1 => .object "CardTabulator$History"
  | 2 => .array (.object "CardTabulator$State")
  | 3 => .object "CardTabulator$Text"
  | 4 => .object "CardTabulator$Sorter"
  | 5 => .object "CardTabulator$Printer"
  | 6 => .object "CardTabulator$SecondWay"
  | 7 => .object "CardTabulator$Card"
  | _ => .object "CardTabulator$Totals"
abbrev wsX110 : List Cond := u_ws RX11 TX11 9
theorem nmX11 : ∀ a, a < 9 → ∀ b, b < 9 → a ≠ b → (TX11 a).2.1 ≠ (TX11 b).2.1 := by decide +kernel
theorem tyX11_ok : ∀ k, k < 9 → parseFieldDescriptor (TX11 k).2.2.1 = some (tyX11 k) := by decide +kernel
abbrev cX11_init : ByteArray := prog_1_method_1_code
def yX11_init : MethodName := ⟨RX11, "<init>", "()V"⟩
abbrev cX11_lay : ByteArray := prog_1_method_2_code
def yX11_lay : MethodName := ⟨RX11, "lay", "(III)I"⟩
abbrev cX11_set : ByteArray := prog_1_method_3_code
def yX11_set : MethodName := ⟨RX11, "set", "(II)I"⟩
abbrev cX11_control : ByteArray := prog_1_method_4_code
def yX11_control : MethodName := ⟨RX11, "control", "(II)I"⟩
abbrev cX11_punch : ByteArray := prog_1_method_5_code
def yX11_punch : MethodName := ⟨RX11, "punch", "(I)I"⟩
abbrev cX11_take : ByteArray := prog_1_method_6_code
def yX11_take : MethodName := ⟨RX11, "take", "(I)I"⟩
abbrev cX11_move : ByteArray := prog_1_method_7_code
def yX11_move : MethodName := ⟨RX11, "move", "(II)I"⟩
abbrev cX11_repunch : ByteArray := prog_1_method_8_code
def yX11_repunch : MethodName := ⟨RX11, "repunch", "(III)I"⟩
abbrev cX11_mark : ByteArray := prog_1_method_9_code
def yX11_mark : MethodName := ⟨RX11, "mark", "(III)I"⟩
abbrev cX11_pass : ByteArray := prog_1_method_10_code
def yX11_pass : MethodName := ⟨RX11, "pass", "(I)I"⟩
abbrev cX11_sort : ByteArray := prog_1_method_11_code
def yX11_sort : MethodName := ⟨RX11, "sort", "(I)I"⟩
abbrev cX11_run : ByteArray := prog_1_method_12_code
def yX11_run : MethodName := ⟨RX11, "run", "()I"⟩
abbrev cX11_undo : ByteArray := prog_1_method_13_code
def yX11_undo : MethodName := ⟨RX11, "undo", "()I"⟩
abbrev cX11_write : ByteArray := prog_1_method_14_code
def yX11_write : MethodName := ⟨RX11, "write", "(I)I"⟩
abbrev cX11_wipe : ByteArray := prog_1_method_15_code
def yX11_wipe : MethodName := ⟨RX11, "wipe", "()I"⟩
abbrev cX11_told : ByteArray := prog_1_method_17_code
def yX11_told : MethodName := ⟨RX11, "told", "(I)I"⟩
abbrev cX11_setting : ByteArray := prog_1_method_18_code
def yX11_setting : MethodName := ⟨RX11, "setting", "(I)I"⟩
abbrev cX11_card : ByteArray := prog_1_method_21_code
def yX11_card : MethodName := ⟨RX11, "card", "(II)I"⟩
abbrev cX11_line : ByteArray := prog_1_method_22_code
def yX11_line : MethodName := ⟨RX11, "line", "(II)I"⟩
abbrev cX11_reason : ByteArray := prog_1_method_23_code
def yX11_reason : MethodName := ⟨RX11, "reason", "(I)I"⟩
abbrev cX11_differs : ByteArray := prog_1_method_24_code
def yX11_differs : MethodName := ⟨RX11, "differs", "(I)I"⟩
abbrev cX11_again : ByteArray := prog_1_method_25_code
def yX11_again : MethodName := ⟨RX11, "again", "(II)I"⟩
abbrev cX11_agrees : ByteArray := prog_1_method_26_code
def yX11_agrees : MethodName := ⟨RX11, "agrees", "()I"⟩
abbrev cX11_ranked : ByteArray := prog_1_method_27_code
def yX11_ranked : MethodName := ⟨RX11, "ranked", "(II)I"⟩
abbrev cX11_mean : ByteArray := prog_1_method_28_code
def yX11_mean : MethodName := ⟨RX11, "mean", "()F"⟩
abbrev cX11_passes : ByteArray := prog_1_method_29_code
def yX11_passes : MethodName := ⟨RX11, "passes", "()I"⟩
abbrev cX11_accepts : ByteArray := prog_1_method_30_code
def yX11_accepts : MethodName := ⟨RX11, "accepts", "(I)I"⟩
abbrev cX11_keep : ByteArray := prog_1_method_31_code
def yX11_keep : MethodName := ⟨RX11, "keep", "(I)I"⟩
abbrev cX11_back : ByteArray := prog_1_method_32_code
def yX11_back : MethodName := ⟨RX11, "back", "(I)I"⟩
abbrev cX11_feedDeck : ByteArray := prog_1_method_33_code
def yX11_feedDeck : MethodName := ⟨RX11, "feedDeck", "(IZ)I"⟩
abbrev cX11_printJudged : ByteArray := prog_1_method_34_code
def yX11_printJudged : MethodName := ⟨RX11, "printJudged", "(II)V"⟩
abbrev cX11_refusal : ByteArray := prog_1_method_35_code
def yX11_refusal : MethodName := ⟨RX11, "refusal", "(LCardTabulator$Card;IJ)I"⟩
abbrev cX11_faultOfCard : ByteArray := prog_1_method_36_code
def yX11_faultOfCard : MethodName := ⟨RX11, "faultOfCard", "(LCardTabulator$Card;)I"⟩
abbrev cX11_acceptedTotal : ByteArray := prog_1_method_37_code
def yX11_acceptedTotal : MethodName := ⟨RX11, "acceptedTotal", "(I)I"⟩
abbrev cX11_isDeckInOrder : ByteArray := prog_1_method_38_code
def yX11_isDeckInOrder : MethodName := ⟨RX11, "isDeckInOrder", "()Z"⟩
abbrev cX11_passByKeyColumns : ByteArray := prog_1_method_39_code
def yX11_passByKeyColumns : MethodName := ⟨RX11, "passByKeyColumns", "(I)V"⟩
abbrev cX11_isWithin : ByteArray := prog_1_method_40_code
def yX11_isWithin : MethodName := ⟨RX11, "isWithin", "(III)Z"⟩
abbrev cX11_isField : ByteArray := prog_1_method_41_code
def yX11_isField : MethodName := ⟨RX11, "isField", "(I)Z"⟩
abbrev cX11_isColumn : ByteArray := prog_1_method_42_code
def yX11_isColumn : MethodName := ⟨RX11, "isColumn", "(I)Z"⟩
abbrev cX11_isSetting : ByteArray := prog_1_method_43_code
def yX11_isSetting : MethodName := ⟨RX11, "isSetting", "(I)Z"⟩
abbrev cX11_isControl : ByteArray := prog_1_method_44_code
def yX11_isControl : MethodName := ⟨RX11, "isControl", "(I)Z"⟩
abbrev cX11_fits : ByteArray := prog_1_method_45_code
def yX11_fits : MethodName := ⟨RX11, "fits", "(III)Z"⟩
def RX12 : String := "CardTabulatorModel"
def TX12 : u_T := fun k => match k with
  | _ => ("", "", "", false)
def tyX12 : Nat → FieldType := fun k => match k with
  | _ => .int
abbrev wsX120 : List Cond := u_ws RX12 TX12 0
theorem nmX12 : ∀ a, a < 0 → ∀ b, b < 0 → a ≠ b → (TX12 a).2.1 ≠ (TX12 b).2.1 := by decide +kernel
theorem tyX12_ok : ∀ k, k < 0 → parseFieldDescriptor (TX12 k).2.2.1 = some (tyX12 k) := by decide +kernel
def RJ9 : String := "java/lang/Math"
def TJ9 : u_T := fun k => match k with
  | _ => ("", "", "", false)
def tyJ9 : Nat → FieldType := fun k => match k with
  | _ => .int
abbrev wsJ90 : List Cond := u_ws RJ9 TJ9 0
theorem nmJ9 : ∀ a, a < 0 → ∀ b, b < 0 → a ≠ b → (TJ9 a).2.1 ≠ (TJ9 b).2.1 := by decide +kernel
theorem tyJ9_ok : ∀ k, k < 0 → parseFieldDescriptor (TJ9 k).2.2.1 = some (tyJ9 k) := by decide +kernel
abbrev cJ9_floorMod_7cf53 : ByteArray := prog_15_method_50_code
def yJ9_floorMod_7cf53 : MethodName := ⟨RJ9, "floorMod", "(II)I"⟩
abbrev cJ9_abs_0f7a4 : ByteArray := prog_15_method_59_code
def yJ9_abs_0f7a4 : MethodName := ⟨RJ9, "abs", "(I)I"⟩
abbrev cJ9_min_7cf53 : ByteArray := prog_15_method_69_code
def yJ9_min_7cf53 : MethodName := ⟨RJ9, "min", "(II)I"⟩
def RJ10 : String := "java/lang/System"
def TJ10 : u_T := fun k => match k with
  | _ => ("", "", "", false)
def tyJ10 : Nat → FieldType := fun k => match k with
  | _ => .int
abbrev wsJ100 : List Cond := u_ws RJ10 TJ10 0
theorem nmJ10 : ∀ a, a < 0 → ∀ b, b < 0 → a ≠ b → (TJ10 a).2.1 ≠ (TJ10 b).2.1 := by decide +kernel
theorem tyJ10_ok : ∀ k, k < 0 → parseFieldDescriptor (TJ10 k).2.2.1 = some (tyJ10 k) := by decide +kernel
def RL : String := "CardTabulatorLaw"
abbrev cL_cell : ByteArray := method_2_code
def yL_cell : MethodName := ⟨RL, "cell", "([II)I"⟩
abbrev cL_low : ByteArray := method_3_code
def yL_low : MethodName := ⟨RL, "low", "(II)I"⟩
abbrev cL_number : ByteArray := method_4_code
def yL_number : MethodName := ⟨RL, "number", "(LCardTabulator;II)I"⟩
abbrev cL_write : ByteArray := method_5_code
def yL_write : MethodName := ⟨RL, "write", "(LCardTabulator;I)I"⟩
abbrev cL_change : ByteArray := method_6_code
def yL_change : MethodName := ⟨RL, "change", "(LCardTabulator;II)I"⟩
abbrev cL_isReport : ByteArray := method_7_code
def yL_isReport : MethodName := ⟨RL, "isReport", "(LCardTabulator;)Z"⟩
abbrev cL_isAgain : ByteArray := method_8_code
def yL_isAgain : MethodName := ⟨RL, "isAgain", "(LCardTabulator;)Z"⟩
abbrev cL_isSorted : ByteArray := method_9_code
def yL_isSorted : MethodName := ⟨RL, "isSorted", "(LCardTabulator;)Z"⟩
abbrev cL_isAccepted : ByteArray := method_10_code
def yL_isAccepted : MethodName := ⟨RL, "isAccepted", "(LCardTabulator;I)Z"⟩
abbrev cL_areAlike : ByteArray := method_11_code
def yL_areAlike : MethodName := ⟨RL, "areAlike", "(LCardTabulator;LCardTabulator;)Z"⟩
abbrev cL_law : ByteArray := code
def yL_law : MethodName := ⟨RL, "law", "([I)Z"⟩
def wsL_law_r1 : List Cond := [Cond.classLink RL 10 RX11, Cond.instantiable RX11 9, Cond.initialized RX11, Cond.methodLink RL 114 yX11_init, Cond.instanceMethod yX11_init, Cond.code yX11_init cX11_init 1 none, Cond.methodLink RX11 3 objectInit, Cond.instanceMethod objectInit, Cond.code objectInit ⟨#[0xb1]⟩ 1 none, Cond.classLink RX11 9 RX8, Cond.instantiable RX8 5, Cond.initialized RX8, Cond.fieldLink RX11 12 "CardTabulator" "now" "LCardTabulator$State;", Cond.classLink RX11 16 RX2, Cond.instantiable RX2 3, Cond.initialized RX2, Cond.fieldLink RX11 19 "CardTabulator" "past" "LCardTabulator$History;", Cond.fieldLink RX11 23 "CardTabulator" "images" "[LCardTabulator$State;", Cond.classLink RX11 27 RX9, Cond.instantiable RX9 7, Cond.initialized RX9, Cond.fieldLink RX11 30 "CardTabulator" "text" "LCardTabulator$Text;", Cond.classLink RX11 34 RX7, Cond.instantiable RX7 5]
def wsL_law_r2 : List Cond := [Cond.initialized RX7, Cond.fieldLink RX11 37 "CardTabulator" "sorter" "LCardTabulator$Sorter;", Cond.classLink RX11 41 RX4, Cond.instantiable RX4 4, Cond.initialized RX4, Cond.fieldLink RX11 44 "CardTabulator" "printer" "LCardTabulator$Printer;", Cond.classLink RX11 48 RX6, Cond.instantiable RX6 4, Cond.initialized RX6, Cond.fieldLink RX11 51 "CardTabulator" "secondWay" "LCardTabulator$SecondWay;", Cond.classLink RX11 55 RX0, Cond.instantiable RX0 3, Cond.initialized RX0, Cond.fieldLink RX11 58 "CardTabulator" "read" "LCardTabulator$Card;", Cond.classLink RX11 62 RX10, Cond.instantiable RX10 8, Cond.initialized RX10, Cond.fieldLink RX11 65 "CardTabulator" "slip" "LCardTabulator$Totals;", Cond.instanceMethod yX8_init, Cond.code yX8_init cX8_init 1 none, Cond.methodLink RX8 3 objectInit, Cond.classLink RX8 9 RX3, Cond.instantiable RX3 2, Cond.initialized RX3]
def wsL_law_r3 : List Cond := [Cond.fieldLink RX8 12 "CardTabulator$State" "layout" "LCardTabulator$Layout;", Cond.classLink RX8 18 RX1, Cond.instantiable RX1 3, Cond.initialized RX1, Cond.fieldLink RX8 21 "CardTabulator$State" "deck" "LCardTabulator$Deck;", Cond.classLink RX8 25 RX5, Cond.instantiable RX5 5, Cond.initialized RX5, Cond.fieldLink RX8 28 "CardTabulator$State" "report" "LCardTabulator$Report;", Cond.arrayClass .int, Cond.fieldLink RX8 32 "CardTabulator$State" "settings" "[I", Cond.constant RX8 36 (-1000009), Cond.fieldLink RX8 37 "CardTabulator$State" "controls" "[I", Cond.instanceMethod yX3_init, Cond.code yX3_init cX3_init 1 none, Cond.methodLink RX3 3 objectInit, Cond.fieldLink RX3 9 "CardTabulator$Layout" "firsts" "[I", Cond.fieldLink RX3 15 "CardTabulator$Layout" "widths" "[I", Cond.methodLink RX8 20 yX1_init, Cond.instanceMethod yX1_init, Cond.code yX1_init cX1_init 2 none, Cond.methodLink RX1 3 objectInit, Cond.classLink RX1 9 RX0, Cond.fieldLink RX1 11 "CardTabulator$Deck" "cards" "[LCardTabulator$Card;"]
def wsL_law_r4 : List Cond := [Cond.fieldLink RX1 18 "CardTabulator$Deck" "stray" "LCardTabulator$Card;", Cond.methodLink RX1 17 yX0_init, Cond.instanceMethod yX0_init, Cond.code yX0_init cX0_init 1 none, Cond.methodLink RX0 3 objectInit, Cond.fieldLink RX0 9 "CardTabulator$Card" "columns" "[I", Cond.methodLink RX0 15 yX0_clear, Cond.instanceMethod yX0_clear, Cond.selects RX0 yX0_clear yX0_clear, Cond.code yX0_clear cX0_clear 2 none, Cond.constant RX0 18 (-1000009), Cond.fieldLink RX0 19 "CardTabulator$Card" "feeding" "I", Cond.fieldLink RX0 23 "CardTabulator$Card" "tornColumn" "I", Cond.instanceMethod yX5_init, Cond.code yX5_init cX5_init 1 none, Cond.methodLink RX5 3 objectInit, Cond.fieldLink RX5 9 "CardTabulator$Report" "lines" "[I", Cond.fieldLink RX5 15 "CardTabulator$Report" "reasons" "[I", Cond.instanceMethod yX2_init, Cond.code yX2_init cX2_init 1 none, Cond.methodLink RX2 3 objectInit, Cond.classLink RX2 9 RX8, Cond.fieldLink RX2 11 "CardTabulator$History" "states" "[LCardTabulator$State;", Cond.instanceMethod yX9_init]
def wsL_law_r5 : List Cond := [Cond.code yX9_init cX9_init 1 none, Cond.methodLink RX9 3 objectInit, Cond.fieldLink RX9 9 "CardTabulator$Text" "bytes" "[I", Cond.fieldLink RX9 15 "CardTabulator$Text" "digits" "[I", Cond.fieldLink RX9 18 "CardTabulator$Text" "starts" "[I", Cond.constant RX9 21 (-1000009), Cond.fieldLink RX9 22 "CardTabulator$Text" "faultKind" "I", Cond.fieldLink RX9 26 "CardTabulator$Text" "faultPlace" "I", Cond.instanceMethod yX7_init, Cond.code yX7_init cX7_init 1 none, Cond.methodLink RX7 3 objectInit, Cond.fieldLink RX7 9 "CardTabulator$Sorter" "order" "[I", Cond.fieldLink RX7 15 "CardTabulator$Sorter" "sorted" "[I", Cond.fieldLink RX7 18 "CardTabulator$Sorter" "starts" "[I", Cond.classLink RX7 21 RX0, Cond.fieldLink RX7 23 "CardTabulator$Sorter" "cards" "[LCardTabulator$Card;", Cond.instanceMethod yX4_init, Cond.code yX4_init cX4_init 1 none, Cond.methodLink RX4 3 objectInit, Cond.classLink RX4 9 RX10, Cond.fieldLink RX4 12 "CardTabulator$Printer" "worker" "LCardTabulator$Totals;", Cond.fieldLink RX4 18 "CardTabulator$Printer" "group" "LCardTabulator$Totals;", Cond.fieldLink RX4 21 "CardTabulator$Printer" "department" "LCardTabulator$Totals;", Cond.fieldLink RX4 24 "CardTabulator$Printer" "all" "LCardTabulator$Totals;"]
def wsL_law_r6 : List Cond := [Cond.instanceMethod yX10_init, Cond.code yX10_init cX10_init 1 none, Cond.methodLink RX10 3 objectInit, Cond.methodLink RX11 50 yX6_init, Cond.instanceMethod yX6_init, Cond.code yX6_init cX6_init 2 none, Cond.methodLink RX6 3 objectInit, Cond.classLink RX6 9 RX10, Cond.fieldLink RX6 11 "CardTabulator$SecondWay" "keys" "[LCardTabulator$Totals;", Cond.fieldLink RX6 18 "CardTabulator$SecondWay" "stray" "LCardTabulator$Totals;", Cond.fieldLink RX6 22 "CardTabulator$SecondWay" "slip" "LCardTabulator$Totals;", Cond.methodLink RX11 57 yX0_init, Cond.methodLink RL 115 yL_cell, Cond.static yL_cell, Cond.initialized RL, Cond.code yL_cell cL_cell 2 (some .int), Cond.constant RL 7 (747796405), Cond.methodLink RL 19 yL_low, Cond.static yL_low, Cond.code yL_low cL_low 2 (some .int), Cond.constant RL 8 (2147483647), Cond.methodLink RL 119 yL_change, Cond.static yL_change, Cond.code yL_change cL_change 6 (some .int)]
def wsL_law_r7 : List Cond := [Cond.constant RL 39 (-1000009), Cond.methodLink RL 29 yX11_told, Cond.instanceMethod yX11_told, Cond.selects RX11 yX11_told yX11_told, Cond.code yX11_told cX11_told 2 (some .int), Cond.fieldLink RX11 120 "CardTabulator$State" "deck" "LCardTabulator$Deck;", Cond.fieldLink RX11 198 "CardTabulator$State" "report" "LCardTabulator$Report;", Cond.fieldLink RX11 237 "CardTabulator$Report" "lineCount" "I", Cond.constant RX11 115 (-1000009), Cond.constant RX11 77 (-1000001), Cond.methodLink RX11 124 yX1_size, Cond.instanceMethod yX1_size, Cond.selects RX1 yX1_size yX1_size, Cond.code yX1_size cX1_size 1 (some .int), Cond.fieldLink RX1 22 "CardTabulator$Deck" "count" "I", Cond.methodLink RX11 240 yX5_isEmpty, Cond.instanceMethod yX5_isEmpty, Cond.selects RX5 yX5_isEmpty yX5_isEmpty, Cond.code yX5_isEmpty cX5_isEmpty 1 (some .boolean), Cond.fieldLink RX5 18 "CardTabulator$Report" "lineCount" "I", Cond.methodLink RX11 241 yX5_lastLine, Cond.instanceMethod yX5_lastLine, Cond.selects RX5 yX5_lastLine yX5_lastLine, Cond.code yX5_lastLine cX5_lastLine 2 (some .int)]
def wsL_law_r8 : List Cond := [Cond.methodLink RX5 50 yX5_number, Cond.instanceMethod yX5_number, Cond.selects RX5 yX5_number yX5_number, Cond.code yX5_number cX5_number 3 (some .int), Cond.methodLink RX5 47 yX5_has, Cond.instanceMethod yX5_has, Cond.selects RX5 yX5_has yX5_has, Cond.code yX5_has cX5_has 2 (some .boolean), Cond.static yX11_isWithin, Cond.code yX11_isWithin cX11_isWithin 3 (some .boolean), Cond.methodLink RX11 244 yX5_refusedCards, Cond.instanceMethod yX5_refusedCards, Cond.selects RX5 yX5_refusedCards yX5_refusedCards, Cond.code yX5_refusedCards cX5_refusedCards 3 (some .int), Cond.fieldLink RX5 28 "CardTabulator$Report" "deckSize" "I", Cond.methodLink RX5 39 yX5_reasonOf, Cond.instanceMethod yX5_reasonOf, Cond.selects RX5 yX5_reasonOf yX5_reasonOf, Cond.code yX5_reasonOf cX5_reasonOf 2 (some .int), Cond.constant RX5 38 (-1000001), Cond.methodLink RX5 34 yX5_hadCard, Cond.instanceMethod yX5_hadCard, Cond.selects RX5 yX5_hadCard yX5_hadCard, Cond.code yX5_hadCard cX5_hadCard 2 (some .boolean)]
def wsL_law_r9 : List Cond := [Cond.methodLink RX11 247 yX11_isDeckInOrder, Cond.instanceMethod yX11_isDeckInOrder, Cond.selects RX11 yX11_isDeckInOrder yX11_isDeckInOrder, Cond.code yX11_isDeckInOrder cX11_isDeckInOrder 1 (some .boolean), Cond.fieldLink RX11 82 "CardTabulator$State" "layout" "LCardTabulator$Layout;", Cond.methodLink RX11 183 yX7_begin, Cond.instanceMethod yX7_begin, Cond.selects RX7 yX7_begin yX7_begin, Cond.code yX7_begin cX7_begin 3 none, Cond.methodLink RX7 33 Lib.Math.min.name, Cond.static Lib.Math.min.name, Cond.initialized "java/lang/Math", Cond.code Lib.Math.min.name Lib.Math.min.code 2 (some .int), Cond.fieldLink RX7 39 "CardTabulator$Sorter" "count" "I", Cond.methodLink RX7 27 yX1_size, Cond.methodLink RX11 301 yX7_isInKeyOrder, Cond.instanceMethod yX7_isInKeyOrder, Cond.selects RX7 yX7_isInKeyOrder yX7_isInKeyOrder, Cond.code yX7_isInKeyOrder cX7_isInKeyOrder 8 (some .boolean), Cond.constantLong RX7 73 (-1), Cond.methodLink RX7 47 yX1_at, Cond.instanceMethod yX1_at, Cond.selects RX1 yX1_at yX1_at, Cond.code yX1_at cX1_at 3 (some (.object "CardTabulator$Card"))]
def wsL_law_r10 : List Cond := [Cond.methodLink RX7 75 yX3_keyOn, Cond.instanceMethod yX3_keyOn, Cond.selects RX3 yX3_keyOn yX3_keyOn, Cond.code yX3_keyOn cX3_keyOn 5 (some .long), Cond.constant RX3 34 (-1000009), Cond.constantLong RX3 42 (-1), Cond.methodLink RX3 39 yX3_valueOn, Cond.instanceMethod yX3_valueOn, Cond.selects RX3 yX3_valueOn yX3_valueOn, Cond.code yX3_valueOn cX3_valueOn 8 (some .int), Cond.methodLink RX3 22 yX3_firstOf, Cond.instanceMethod yX3_firstOf, Cond.selects RX3 yX3_firstOf yX3_firstOf, Cond.code yX3_firstOf cX3_firstOf 2 (some .int), Cond.static yX11_isField, Cond.code yX11_isField cX11_isField 1 (some .boolean), Cond.methodLink RX3 26 yX3_widthOf, Cond.instanceMethod yX3_widthOf, Cond.selects RX3 yX3_widthOf yX3_widthOf, Cond.code yX3_widthOf cX3_widthOf 2 (some .int), Cond.methodLink RX3 29 yX0_shows, Cond.instanceMethod yX0_shows, Cond.selects RX0 yX0_shows yX0_shows, Cond.code yX0_shows cX0_shows 2 (some .int)]
def wsL_law_r11 : List Cond := [Cond.static yX11_isColumn, Cond.code yX11_isColumn cX11_isColumn 1 (some .boolean), Cond.methodLink RX3 44 yX10_keyOf, Cond.static yX10_keyOf, Cond.code yX10_keyOf cX10_keyOf 3 (some .long), Cond.constantLong RX10 9 (10000), Cond.methodLink RX11 224 yX9_size, Cond.instanceMethod yX9_size, Cond.selects RX9 yX9_size yX9_size, Cond.code yX9_size cX9_size 1 (some .int), Cond.fieldLink RX9 29 "CardTabulator$Text" "length" "I", Cond.methodLink RX11 223 yX2_size, Cond.instanceMethod yX2_size, Cond.selects RX2 yX2_size yX2_size, Cond.code yX2_size cX2_size 1 (some .int), Cond.fieldLink RX2 17 "CardTabulator$History" "count" "I", Cond.methodLink RL 32 yX11_lay, Cond.instanceMethod yX11_lay, Cond.selects RX11 yX11_lay yX11_lay, Cond.code yX11_lay cX11_lay 5 (some .int), Cond.methodLink RX11 69 yX11_isField, Cond.methodLink RX11 73 yX11_fits, Cond.static yX11_fits, Cond.code yX11_fits cX11_fits 4 (some .boolean)]
def wsL_law_r12 : List Cond := [Cond.methodLink RX11 103 yX11_isWithin, Cond.methodLink RX11 167 yX11_isColumn, Cond.methodLink RX11 78 yX2_record, Cond.instanceMethod yX2_record, Cond.selects RX2 yX2_record yX2_record, Cond.code yX2_record cX2_record 2 none, Cond.fieldLink RX2 29 "CardTabulator$History" "oldest" "I", Cond.methodLink RX2 21 yX2_at, Cond.instanceMethod yX2_at, Cond.selects RX2 yX2_at yX2_at, Cond.code yX2_at cX2_at 4 (some (.object "CardTabulator$State")), Cond.methodLink RX2 32 yJ9_floorMod_7cf53, Cond.static yJ9_floorMod_7cf53, Cond.initialized RJ9, Cond.code yJ9_floorMod_7cf53 cJ9_floorMod_7cf53 3 (some .int), Cond.methodLink RX2 25 yX8_copyFrom, Cond.instanceMethod yX8_copyFrom, Cond.selects RX8 yX8_copyFrom yX8_copyFrom, Cond.code yX8_copyFrom cX8_copyFrom 2 none, Cond.methodLink RX8 54 arraycopyName, Cond.native arraycopyName, Cond.static arraycopyName, Cond.initialized "java/lang/System", Cond.methodLink RX8 44 yX3_copyFrom]
def wsL_law_r13 : List Cond := [Cond.instanceMethod yX3_copyFrom, Cond.selects RX3 yX3_copyFrom yX3_copyFrom, Cond.code yX3_copyFrom cX3_copyFrom 2 none, Cond.methodLink RX3 50 arraycopyName, Cond.methodLink RX8 48 yX1_copyFrom, Cond.instanceMethod yX1_copyFrom, Cond.selects RX1 yX1_copyFrom yX1_copyFrom, Cond.code yX1_copyFrom cX1_copyFrom 3 none, Cond.methodLink RX1 26 yX1_at, Cond.methodLink RX1 45 yX0_copyFrom, Cond.instanceMethod yX0_copyFrom, Cond.selects RX0 yX0_copyFrom yX0_copyFrom, Cond.code yX0_copyFrom cX0_copyFrom 2 none, Cond.methodLink RX0 34 arraycopyName, Cond.methodLink RX8 51 yX5_copyFrom, Cond.instanceMethod yX5_copyFrom, Cond.selects RX5 yX5_copyFrom yX5_copyFrom, Cond.code yX5_copyFrom cX5_copyFrom 2 none, Cond.fieldLink RX5 31 "CardTabulator$Report" "limit" "I", Cond.methodLink RX5 83 arraycopyName, Cond.methodLink RX11 86 yX3_firstOf, Cond.methodLink RX11 92 yX3_place, Cond.instanceMethod yX3_place, Cond.selects RX3 yX3_place yX3_place]
def wsL_law_r14 : List Cond := [Cond.code yX3_place cX3_place 4 none, Cond.methodLink RL 36 yX11_set, Cond.instanceMethod yX11_set, Cond.selects RX11 yX11_set yX11_set, Cond.code yX11_set cX11_set 4 (some .int), Cond.fieldLink RX11 99 "CardTabulator" "MOST_OF_SETTING" "[I", Cond.fieldLink RX11 109 "CardTabulator$State" "settings" "[I", Cond.methodLink RX11 96 yX11_isSetting, Cond.static yX11_isSetting, Cond.code yX11_isSetting cX11_isSetting 1 (some .boolean), Cond.methodLink RX11 106 yX8_settingOf, Cond.instanceMethod yX8_settingOf, Cond.selects RX8 yX8_settingOf yX8_settingOf, Cond.code yX8_settingOf cX8_settingOf 2 (some .int), Cond.methodLink RL 40 yX11_control, Cond.instanceMethod yX11_control, Cond.selects RX11 yX11_control yX11_control, Cond.code yX11_control cX11_control 4 (some .int), Cond.constant RX11 116 (1000000), Cond.fieldLink RX11 117 "CardTabulator$State" "controls" "[I", Cond.methodLink RX11 112 yX11_isControl, Cond.static yX11_isControl, Cond.code yX11_isControl cX11_isControl 1 (some .boolean), Cond.methodLink RL 43 yX11_take]
def wsL_law_r15 : List Cond := [Cond.instanceMethod yX11_take, Cond.selects RX11 yX11_take yX11_take, Cond.code yX11_take cX11_take 2 (some .int), Cond.methodLink RX11 152 yX1_has, Cond.instanceMethod yX1_has, Cond.selects RX1 yX1_has yX1_has, Cond.code yX1_has cX1_has 2 (some .boolean), Cond.methodLink RX11 155 yX1_remove, Cond.instanceMethod yX1_remove, Cond.selects RX1 yX1_remove yX1_remove, Cond.code yX1_remove cX1_remove 2 none, Cond.methodLink RX1 37 yX1_has, Cond.methodLink RX1 33 yX1_carry, Cond.instanceMethod yX1_carry, Cond.selects RX1 yX1_carry yX1_carry, Cond.code yX1_carry cX1_carry 5 none, Cond.methodLink RX1 41 yX1_put, Cond.instanceMethod yX1_put, Cond.selects RX1 yX1_put yX1_put, Cond.code yX1_put cX1_put 3 none, Cond.methodLink RL 46 yX11_move, Cond.instanceMethod yX11_move, Cond.selects RX11 yX11_move yX11_move, Cond.code yX11_move cX11_move 3 (some .int)]
def wsL_law_r16 : List Cond := [Cond.methodLink RX11 162 Lib.Math.abs.name, Cond.static Lib.Math.abs.name, Cond.code Lib.Math.abs.name Lib.Math.abs.code 1 (some .int), Cond.methodLink RX11 159 yX1_carry, Cond.methodLink RL 49 yX11_repunch, Cond.instanceMethod yX11_repunch, Cond.selects RX11 yX11_repunch yX11_repunch, Cond.code yX11_repunch cX11_repunch 6 (some .int), Cond.methodLink RX11 170 yX1_at, Cond.methodLink RX11 173 yX0_shows, Cond.methodLink RX11 148 yX0_show, Cond.instanceMethod yX0_show, Cond.selects RX0 yX0_show yX0_show, Cond.code yX0_show cX0_show 3 none, Cond.methodLink RL 52 yX11_mark, Cond.instanceMethod yX11_mark, Cond.selects RX11 yX11_mark yX11_mark, Cond.code yX11_mark cX11_mark 6 (some .int), Cond.fieldLink RX11 176 "CardTabulator$Card" "feeding" "I", Cond.fieldLink RX11 180 "CardTabulator$Card" "tornColumn" "I", Cond.methodLink RL 55 yX11_pass, Cond.instanceMethod yX11_pass, Cond.selects RX11 yX11_pass yX11_pass, Cond.code yX11_pass cX11_pass 2 (some .int)]
def wsL_law_r17 : List Cond := [Cond.methodLink RX11 187 yX7_passBy, Cond.instanceMethod yX7_passBy, Cond.selects RX7 yX7_passBy yX7_passBy, Cond.code yX7_passBy cX7_passBy 6 none, Cond.methodLink RX7 55 arraycopyName, Cond.methodLink RX7 43 yX7_findStarts, Cond.instanceMethod yX7_findStarts, Cond.selects RX7 yX7_findStarts yX7_findStarts, Cond.code yX7_findStarts cX7_findStarts 4 none, Cond.methodLink RX7 51 yX7_stackOf, Cond.static yX7_stackOf, Cond.code yX7_stackOf cX7_stackOf 3 (some .int), Cond.methodLink RX7 61 yX0_shows, Cond.methodLink RX11 191 yX7_arrange, Cond.instanceMethod yX7_arrange, Cond.selects RX7 yX7_arrange yX7_arrange, Cond.code yX7_arrange cX7_arrange 4 (some .int), Cond.methodLink RX7 69 yX1_put, Cond.methodLink RL 58 yX11_sort, Cond.instanceMethod yX11_sort, Cond.selects RX11 yX11_sort yX11_sort, Cond.code yX11_sort cX11_sort 3 (some .int), Cond.methodLink RX11 195 yX3_widthOf, Cond.methodLink RL 61 yX11_run]
def wsL_law_r18 : List Cond := [Cond.instanceMethod yX11_run, Cond.selects RX11 yX11_run yX11_run, Cond.code yX11_run cX11_run 2 (some .int), Cond.methodLink RX11 202 yX5_begin, Cond.instanceMethod yX5_begin, Cond.selects RX5 yX5_begin yX5_begin, Cond.code yX5_begin cX5_begin 3 none, Cond.methodLink RX5 22 Lib.Math.min.name, Cond.methodLink RX11 206 yX4_begin, Cond.instanceMethod yX4_begin, Cond.selects RX4 yX4_begin yX4_begin, Cond.code yX4_begin cX4_begin 1 none, Cond.methodLink RX4 27 yX10_clear, Cond.instanceMethod yX10_clear, Cond.selects RX10 yX10_clear yX10_clear, Cond.code yX10_clear cX10_clear 1 none, Cond.fieldLink RX10 11 "CardTabulator$Totals" "department" "I", Cond.fieldLink RX10 17 "CardTabulator$Totals" "group" "I", Cond.fieldLink RX10 20 "CardTabulator$Totals" "worker" "I", Cond.fieldLink RX10 27 "CardTabulator$Totals" "rate" "I", Cond.fieldLink RX10 30 "CardTabulator$Totals" "cards" "I", Cond.fieldLink RX10 33 "CardTabulator$Totals" "hours" "I", Cond.fieldLink RX10 36 "CardTabulator$Totals" "wages" "I", Cond.fieldLink RX10 39 "CardTabulator$Totals" "overtime" "I"]
def wsL_law_r19 : List Cond := [Cond.methodLink RX11 208 yX11_feedDeck, Cond.instanceMethod yX11_feedDeck, Cond.selects RX11 yX11_feedDeck yX11_feedDeck, Cond.code yX11_feedDeck cX11_feedDeck 9 (some .int), Cond.constantLong RX11 308 (-1), Cond.methodLink RX11 310 yX11_refusal, Cond.instanceMethod yX11_refusal, Cond.selects RX11 yX11_refusal yX11_refusal, Cond.code yX11_refusal cX11_refusal 6 (some .int), Cond.methodLink RX11 254 yX11_faultOfCard, Cond.instanceMethod yX11_faultOfCard, Cond.selects RX11 yX11_faultOfCard yX11_faultOfCard, Cond.code yX11_faultOfCard cX11_faultOfCard 2 (some .int), Cond.fieldLink RX11 336 "CardTabulator$Totals" "hours" "I", Cond.methodLink RX11 328 yX0_readFrom, Cond.instanceMethod yX0_readFrom, Cond.selects RX0 yX0_readFrom yX0_readFrom, Cond.code yX0_readFrom cX0_readFrom 2 none, Cond.methodLink RX0 30 yX0_copyFrom, Cond.methodLink RX0 40 yX0_show, Cond.methodLink RX11 332 yX10_fillFrom, Cond.instanceMethod yX10_fillFrom, Cond.selects RX10 yX10_fillFrom yX10_fillFrom, Cond.code yX10_fillFrom cX10_fillFrom 3 (some .boolean)]
def wsL_law_r20 : List Cond := [Cond.constant RX10 48 (-1000009), Cond.methodLink RX10 42 yX3_valueOn, Cond.methodLink RX11 250 yX3_valueOn, Cond.methodLink RX11 144 yX3_dueOn, Cond.instanceMethod yX3_dueOn, Cond.selects RX3 yX3_dueOn yX3_dueOn, Cond.code yX3_dueOn cX3_dueOn 4 (some .int), Cond.methodLink RX3 35 yX3_weighedDigits, Cond.instanceMethod yX3_weighedDigits, Cond.selects RX3 yX3_weighedDigits yX3_weighedDigits, Cond.code yX3_weighedDigits cX3_weighedDigits 8 (some .int), Cond.methodLink RX11 314 yX10_key, Cond.instanceMethod yX10_key, Cond.selects RX10 yX10_key yX10_key, Cond.code yX10_key cX10_key 1 (some .long), Cond.methodLink RX10 23 yX10_keyOf, Cond.methodLink RX11 318 yX11_printJudged, Cond.instanceMethod yX11_printJudged, Cond.selects RX11 yX11_printJudged yX11_printJudged, Cond.code yX11_printJudged cX11_printJudged 3 none, Cond.methodLink RX11 321 yX5_judge, Cond.instanceMethod yX5_judge, Cond.selects RX5 yX5_judge yX5_judge, Cond.code yX5_judge cX5_judge 3 none]
def wsL_law_r21 : List Cond := [Cond.methodLink RX11 324 yX4_accept, Cond.instanceMethod yX4_accept, Cond.selects RX4 yX4_accept yX4_accept, Cond.code yX4_accept cX4_accept 4 none, Cond.fieldLink RX4 30 "CardTabulator$Totals" "cards" "I", Cond.methodLink RX4 34 yX10_key, Cond.methodLink RX4 38 yX4_breakBefore, Cond.instanceMethod yX4_breakBefore, Cond.selects RX4 yX4_breakBefore yX4_breakBefore, Cond.code yX4_breakBefore cX4_breakBefore 4 none, Cond.fieldLink RX4 63 "CardTabulator$Totals" "department" "I", Cond.fieldLink RX4 65 "CardTabulator$Totals" "group" "I", Cond.methodLink RX4 52 yX4_breakWorker, Cond.instanceMethod yX4_breakWorker, Cond.selects RX4 yX4_breakWorker yX4_breakWorker, Cond.code yX4_breakWorker cX4_breakWorker 3 none, Cond.fieldLink RX4 67 "CardTabulator$Report" "limit" "I", Cond.constant RX4 62 (-1000009), Cond.methodLink RX4 70 yX10_overtimeBeyond, Cond.instanceMethod yX10_overtimeBeyond, Cond.selects RX10 yX10_overtimeBeyond yX10_overtimeBeyond, Cond.code yX10_overtimeBeyond cX10_overtimeBeyond 2 (some .int), Cond.constantLong RX10 49 (20), Cond.methodLink RX4 74 yX10_addOvertime]
def wsL_law_r22 : List Cond := [Cond.instanceMethod yX10_addOvertime, Cond.selects RX10 yX10_addOvertime yX10_addOvertime, Cond.code yX10_addOvertime cX10_addOvertime 2 none, Cond.methodLink RX4 42 yX5_print, Cond.instanceMethod yX5_print, Cond.selects RX5 yX5_print yX5_print, Cond.code yX5_print cX5_print 5 none, Cond.fieldLink RX5 56 "CardTabulator$Totals" "department" "I", Cond.constant RX5 61 (-1000009), Cond.fieldLink RX5 62 "CardTabulator$Totals" "group" "I", Cond.fieldLink RX5 65 "CardTabulator$Totals" "worker" "I", Cond.fieldLink RX5 68 "CardTabulator$Totals" "cards" "I", Cond.fieldLink RX5 71 "CardTabulator$Totals" "hours" "I", Cond.fieldLink RX5 74 "CardTabulator$Totals" "wages" "I", Cond.fieldLink RX5 77 "CardTabulator$Totals" "overtime" "I", Cond.fieldLink RX5 80 "CardTabulator$Totals" "rate" "I", Cond.methodLink RX4 56 yX4_breakGroup, Cond.instanceMethod yX4_breakGroup, Cond.selects RX4 yX4_breakGroup yX4_breakGroup, Cond.code yX4_breakGroup cX4_breakGroup 2 none, Cond.methodLink RX4 59 yX4_breakDepartment, Cond.instanceMethod yX4_breakDepartment, Cond.selects RX4 yX4_breakDepartment yX4_breakDepartment, Cond.code yX4_breakDepartment cX4_breakDepartment 2 none]
def wsL_law_r23 : List Cond := [Cond.methodLink RX4 48 yX10_addCard, Cond.instanceMethod yX10_addCard, Cond.selects RX10 yX10_addCard yX10_addCard, Cond.code yX10_addCard cX10_addCard 2 none, Cond.methodLink RX11 212 yX4_end, Cond.instanceMethod yX4_end, Cond.selects RX4 yX4_end yX4_end, Cond.code yX4_end cX4_end 2 none, Cond.methodLink RL 64 yX11_undo, Cond.instanceMethod yX11_undo, Cond.selects RX11 yX11_undo yX11_undo, Cond.code yX11_undo cX11_undo 1 (some .int), Cond.constant RX11 134 (-1000002), Cond.methodLink RX11 216 yX2_isEmpty, Cond.instanceMethod yX2_isEmpty, Cond.selects RX2 yX2_isEmpty yX2_isEmpty, Cond.code yX2_isEmpty cX2_isEmpty 1 (some .boolean), Cond.methodLink RX11 220 yX2_restoreInto, Cond.instanceMethod yX2_restoreInto, Cond.selects RX2 yX2_restoreInto yX2_restoreInto, Cond.code yX2_restoreInto cX2_restoreInto 2 none, Cond.methodLink RL 67 yX11_keep, Cond.instanceMethod yX11_keep, Cond.selects RX11 yX11_keep yX11_keep]
def wsL_law_r24 : List Cond := [Cond.code yX11_keep cX11_keep 3 (some .int), Cond.methodLink RX11 305 yX8_copyFrom, Cond.methodLink RL 70 yX11_back, Cond.instanceMethod yX11_back, Cond.selects RX11 yX11_back yX11_back, Cond.code yX11_back cX11_back 3 (some .int), Cond.methodLink RL 73 yL_write, Cond.static yL_write, Cond.code yL_write cL_write 3 (some .int), Cond.methodLink RL 15 yX11_wipe, Cond.instanceMethod yX11_wipe, Cond.selects RX11 yX11_wipe yX11_wipe, Cond.code yX11_wipe cX11_wipe 2 (some .int), Cond.methodLink RX11 228 yX9_clear, Cond.instanceMethod yX9_clear, Cond.selects RX9 yX9_clear yX9_clear, Cond.code yX9_clear cX9_clear 1 none, Cond.methodLink RL 25 yL_number, Cond.static yL_number, Cond.code yL_number cL_number 4 (some .int), Cond.methodLink RL 9 yX11_write, Cond.instanceMethod yX11_write, Cond.selects RX11 yX11_write yX11_write, Cond.code yX11_write cX11_write 2 (some .int)]
def wsL_law_r25 : List Cond := [Cond.constant RX11 135 (-1000003), Cond.methodLink RX11 225 yX9_append, Cond.instanceMethod yX9_append, Cond.selects RX9 yX9_append yX9_append, Cond.code yX9_append cX9_append 2 none, Cond.methodLink RL 76 yX11_punch, Cond.instanceMethod yX11_punch, Cond.selects RX11 yX11_punch yX11_punch, Cond.code yX11_punch cX11_punch 3 (some .int), Cond.methodLink RX11 130 yX9_readsAsCard, Cond.instanceMethod yX9_readsAsCard, Cond.selects RX9 yX9_readsAsCard yX9_readsAsCard, Cond.code yX9_readsAsCard cX9_readsAsCard 4 (some .boolean), Cond.fieldLink RX9 32 "CardTabulator$Text" "word" "I", Cond.methodLink RX9 35 yX9_readBetweenWords, Cond.instanceMethod yX9_readBetweenWords, Cond.selects RX9 yX9_readBetweenWords yX9_readBetweenWords, Cond.code yX9_readBetweenWords cX9_readBetweenWords 4 (some .int), Cond.methodLink RX9 54 yX9_at, Cond.instanceMethod yX9_at, Cond.selects RX9 yX9_at yX9_at, Cond.code yX9_at cX9_at 2 (some .int), Cond.methodLink RX9 57 yX9_fieldOf, Cond.static yX9_fieldOf]
def wsL_law_r26 : List Cond := [Cond.code yX9_fieldOf cX9_fieldOf 1 (some .int), Cond.methodLink RX9 60 yX9_digitsOf, Cond.instanceMethod yX9_digitsOf, Cond.selects RX9 yX9_digitsOf yX9_digitsOf, Cond.code yX9_digitsOf cX9_digitsOf 2 (some .int), Cond.methodLink RX9 63 yX9_isTextField, Cond.static yX9_isTextField, Cond.code yX9_isTextField cX9_isTextField 1 (some .boolean), Cond.methodLink RX9 39 yX9_readInWord, Cond.instanceMethod yX9_readInWord, Cond.selects RX9 yX9_readInWord yX9_readInWord, Cond.code yX9_readInWord cX9_readInWord 4 (some .int), Cond.methodLink RX9 71 yX3_widthOf, Cond.methodLink RX9 76 yX9_countDigit, Cond.instanceMethod yX9_countDigit, Cond.selects RX9 yX9_countDigit yX9_countDigit, Cond.code yX9_countDigit cX9_countDigit 2 (some .int), Cond.methodLink RX9 43 yX9_noteFault, Cond.instanceMethod yX9_noteFault, Cond.selects RX9 yX9_noteFault yX9_noteFault, Cond.code yX9_noteFault cX9_noteFault 3 (some .boolean), Cond.methodLink RX9 47 yX9_hasWord, Cond.instanceMethod yX9_hasWord, Cond.selects RX9 yX9_hasWord yX9_hasWord]
def wsL_law_r27 : List Cond := [Cond.code yX9_hasWord cX9_hasWord 2 (some .boolean), Cond.methodLink RX9 51 yX9_endsBehindLetter, Cond.instanceMethod yX9_endsBehindLetter, Cond.selects RX9 yX9_endsBehindLetter yX9_endsBehindLetter, Cond.code yX9_endsBehindLetter cX9_endsBehindLetter 1 (some .boolean), Cond.methodLink RX11 136 yX1_insertBlank, Cond.instanceMethod yX1_insertBlank, Cond.selects RX1 yX1_insertBlank yX1_insertBlank, Cond.code yX1_insertBlank cX1_insertBlank 3 (some (.object "CardTabulator$Card")), Cond.methodLink RX1 30 yX0_clear, Cond.methodLink RX11 140 yX9_punchOn, Cond.instanceMethod yX9_punchOn, Cond.selects RX9 yX9_punchOn yX9_punchOn, Cond.code yX9_punchOn cX9_punchOn 4 none, Cond.methodLink RX9 79 yX9_punchNumber, Cond.instanceMethod yX9_punchNumber, Cond.selects RX9 yX9_punchNumber yX9_punchNumber, Cond.code yX9_punchNumber cX9_punchNumber 8 none, Cond.methodLink RX9 83 yX3_firstOf, Cond.methodLink RX9 86 yX0_show, Cond.methodLink RL 122 yL_isReport, Cond.static yL_isReport, Cond.code yL_isReport cL_isReport 9 (some .boolean), Cond.constant RL 95 (-1000001)]
def wsL_law_r28 : List Cond := [Cond.methodLink RL 79 yX11_agrees, Cond.instanceMethod yX11_agrees, Cond.selects RX11 yX11_agrees yX11_agrees, Cond.code yX11_agrees cX11_agrees 2 (some .int), Cond.methodLink RX11 271 yX6_reckon, Cond.instanceMethod yX6_reckon, Cond.selects RX6 yX6_reckon yX6_reckon, Cond.code yX6_reckon cX6_reckon 3 none, Cond.fieldLink RX6 25 "CardTabulator$SecondWay" "count" "I", Cond.fieldLink RX6 29 "CardTabulator$Report" "lineCount" "I", Cond.fieldLink RX6 58 "CardTabulator$Report" "limit" "I", Cond.methodLink RX6 34 yX5_isCard, Cond.instanceMethod yX5_isCard, Cond.selects RX5 yX5_isCard yX5_isCard, Cond.code yX5_isCard cX5_isCard 2 (some .boolean), Cond.methodLink RX6 38 yX5_readCard, Cond.instanceMethod yX5_readCard, Cond.selects RX5 yX5_readCard yX5_readCard, Cond.code yX5_readCard cX5_readCard 3 none, Cond.methodLink RX6 42 yX10_key, Cond.methodLink RX6 46 yX6_ofKey, Cond.instanceMethod yX6_ofKey, Cond.selects RX6 yX6_ofKey yX6_ofKey, Cond.code yX6_ofKey cX6_ofKey 4 (some (.object "CardTabulator$Totals"))]
def wsL_law_r29 : List Cond := [Cond.methodLink RX6 54 yX6_at, Cond.instanceMethod yX6_at, Cond.selects RX6 yX6_at yX6_at, Cond.code yX6_at cX6_at 3 (some (.object "CardTabulator$Totals")), Cond.methodLink RX6 69 yX10_clear, Cond.methodLink RX6 50 yX10_addCard, Cond.methodLink RX6 61 yX10_overtimeBeyond, Cond.methodLink RX6 65 yX10_addOvertime, Cond.methodLink RX11 274 yX6_sum, Cond.instanceMethod yX6_sum, Cond.selects RX6 yX6_sum yX6_sum, Cond.code yX6_sum cX6_sum 5 (some .int), Cond.fieldLink RX6 72 "CardTabulator$Totals" "department" "I", Cond.methodLink RX6 75 yX6_numberOf, Cond.static yX6_numberOf, Cond.code yX6_numberOf cX6_numberOf 2 (some .int), Cond.fieldLink RX6 79 "CardTabulator$Totals" "cards" "I", Cond.fieldLink RX6 82 "CardTabulator$Totals" "hours" "I", Cond.fieldLink RX6 85 "CardTabulator$Totals" "wages" "I", Cond.fieldLink RX6 88 "CardTabulator$Totals" "overtime" "I", Cond.methodLink RL 82 yX11_mean, Cond.instanceMethod yX11_mean, Cond.selects RX11 yX11_mean yX11_mean, Cond.code yX11_mean cX11_mean 2 (some .float)]
def wsL_law_r30 : List Cond := [Cond.constantLong RX11 296 (10), Cond.methodLink RL 86 yX11_again, Cond.instanceMethod yX11_again, Cond.selects RX11 yX11_again yX11_again, Cond.code yX11_again cX11_again 3 (some .int), Cond.methodLink RL 89 yX11_line, Cond.instanceMethod yX11_line, Cond.selects RX11 yX11_line yX11_line, Cond.code yX11_line cX11_line 3 (some .int), Cond.methodLink RX11 257 yX5_has, Cond.methodLink RX11 258 yX5_number, Cond.methodLink RL 92 yX11_reason, Cond.instanceMethod yX11_reason, Cond.selects RX11 yX11_reason yX11_reason, Cond.code yX11_reason cX11_reason 2 (some .int), Cond.methodLink RX11 262 yX5_hadCard, Cond.methodLink RX11 265 yX5_reasonOf, Cond.methodLink RL 126 yL_isAgain, Cond.static yL_isAgain, Cond.code yL_isAgain cL_isAgain 9 (some .boolean), Cond.methodLink RL 96 yX11_ranked, Cond.instanceMethod yX11_ranked, Cond.selects RX11 yX11_ranked yX11_ranked, Cond.code yX11_ranked cX11_ranked 4 (some .int)]
def wsL_law_r31 : List Cond := [Cond.fieldLink RX11 284 "CardTabulator$Totals" "department" "I", Cond.fieldLink RX11 287 "CardTabulator$Totals" "group" "I", Cond.fieldLink RX11 290 "CardTabulator$Totals" "worker" "I", Cond.fieldLink RX11 293 "CardTabulator$Totals" "wages" "I", Cond.methodLink RX11 277 yX6_size, Cond.instanceMethod yX6_size, Cond.selects RX6 yX6_size yX6_size, Cond.code yX6_size cX6_size 1 (some .int), Cond.methodLink RX11 278 yX6_rank, Cond.instanceMethod yX6_rank, Cond.selects RX6 yX6_rank yX6_rank, Cond.code yX6_rank cX6_rank 4 none, Cond.methodLink RX6 91 yX6_isAhead, Cond.static yX6_isAhead, Cond.code yX6_isAhead cX6_isAhead 2 (some .boolean), Cond.methodLink RX6 95 yX6_put, Cond.instanceMethod yX6_put, Cond.selects RX6 yX6_put yX6_put, Cond.code yX6_put cX6_put 3 none, Cond.methodLink RX11 281 yX6_at, Cond.methodLink RL 99 yX11_differs, Cond.instanceMethod yX11_differs, Cond.selects RX11 yX11_differs yX11_differs, Cond.code yX11_differs cX11_differs 2 (some .int)]
def wsL_law_r32 : List Cond := [Cond.methodLink RX11 268 yX11_acceptedTotal, Cond.instanceMethod yX11_acceptedTotal, Cond.selects RX11 yX11_acceptedTotal yX11_acceptedTotal, Cond.code yX11_acceptedTotal cX11_acceptedTotal 2 (some .int), Cond.methodLink RX11 339 yX5_sumOfWorkers, Cond.instanceMethod yX5_sumOfWorkers, Cond.selects RX5 yX5_sumOfWorkers yX5_sumOfWorkers, Cond.code yX5_sumOfWorkers cX5_sumOfWorkers 3 (some .int), Cond.methodLink RX5 53 yX5_isCard, Cond.methodLink RL 129 yL_isSorted, Cond.static yL_isSorted, Cond.code yL_isSorted cL_isSorted 5 (some .boolean), Cond.methodLink RL 102 yX11_passes, Cond.instanceMethod yX11_passes, Cond.selects RX11 yX11_passes yX11_passes, Cond.code yX11_passes cX11_passes 3 (some .int), Cond.methodLink RX11 298 yX11_passByKeyColumns, Cond.instanceMethod yX11_passByKeyColumns, Cond.selects RX11 yX11_passByKeyColumns yX11_passByKeyColumns, Cond.code yX11_passByKeyColumns cX11_passByKeyColumns 5 none, Cond.methodLink RL 132 yL_isAccepted, Cond.static yL_isAccepted, Cond.code yL_isAccepted cL_isAccepted 11 (some .boolean), Cond.methodLink RL 105 yX11_accepts]
def wsL_law_r33 : List Cond := [Cond.instanceMethod yX11_accepts, Cond.selects RX11 yX11_accepts yX11_accepts, Cond.code yX11_accepts cX11_accepts 2 (some .int), Cond.methodLink RL 108 yX11_card, Cond.instanceMethod yX11_card, Cond.selects RX11 yX11_card yX11_card, Cond.code yX11_card cX11_card 4 (some .int), Cond.methodLink RL 111 yX11_setting, Cond.instanceMethod yX11_setting, Cond.selects RX11 yX11_setting yX11_setting, Cond.code yX11_setting cX11_setting 2 (some .int), Cond.methodLink RL 136 yL_areAlike, Cond.static yL_areAlike, Cond.code yL_areAlike cL_areAlike 5 (some .boolean)]
def wsL_law : List Cond := (wsL_law_r1 ++ (wsL_law_r2 ++ (wsL_law_r3 ++ (wsL_law_r4 ++ (wsL_law_r5 ++ (wsL_law_r6 ++ (wsL_law_r7 ++ (wsL_law_r8 ++ (wsL_law_r9 ++ (wsL_law_r10 ++ (wsL_law_r11 ++ (wsL_law_r12 ++ (wsL_law_r13 ++ (wsL_law_r14 ++ (wsL_law_r15 ++ (wsL_law_r16 ++ (wsL_law_r17 ++ (wsL_law_r18 ++ (wsL_law_r19 ++ (wsL_law_r20 ++ (wsL_law_r21 ++ (wsL_law_r22 ++ (wsL_law_r23 ++ (wsL_law_r24 ++ (wsL_law_r25 ++ (wsL_law_r26 ++ (wsL_law_r27 ++ (wsL_law_r28 ++ (wsL_law_r29 ++ (wsL_law_r30 ++ (wsL_law_r31 ++ (wsL_law_r32 ++ wsL_law_r33)))))))))))))))))))))))))))))))) ++ wsX110 ++ wsX80 ++ wsX20 ++ wsX90 ++ wsX70 ++ wsX40 ++ wsX60 ++ wsX00 ++ wsX100 ++ wsX30 ++ wsX10 ++ wsX50 ++ ([] : List Cond)
theorem inlX0 : ∀ w ∈ wsX00, w ∈ wsL_law := fun _ h => List.mem_append_left _ (List.mem_append_left _ (List.mem_append_left _ (List.mem_append_left _ (List.mem_append_left _ (List.mem_append_right _ h)))))
theorem inlX1 : ∀ w ∈ wsX10, w ∈ wsL_law := fun _ h => List.mem_append_left _ (List.mem_append_left _ (List.mem_append_right _ h))
theorem inlX2 : ∀ w ∈ wsX20, w ∈ wsL_law := fun _ h => List.mem_append_left _ (List.mem_append_left _ (List.mem_append_left _ (List.mem_append_left _ (List.mem_append_left _ (List.mem_append_left _ (List.mem_append_left _ (List.mem_append_left _ (List.mem_append_left _ (List.mem_append_left _ (List.mem_append_right _ h))))))))))
theorem inlX3 : ∀ w ∈ wsX30, w ∈ wsL_law := fun _ h => List.mem_append_left _ (List.mem_append_left _ (List.mem_append_left _ (List.mem_append_right _ h)))
theorem inlX4 : ∀ w ∈ wsX40, w ∈ wsL_law := fun _ h => List.mem_append_left _ (List.mem_append_left _ (List.mem_append_left _ (List.mem_append_left _ (List.mem_append_left _ (List.mem_append_left _ (List.mem_append_left _ (List.mem_append_right _ h)))))))
theorem inlX5 : ∀ w ∈ wsX50, w ∈ wsL_law := fun _ h => List.mem_append_left _ (List.mem_append_right _ h)
theorem inlX6 : ∀ w ∈ wsX60, w ∈ wsL_law := fun _ h => List.mem_append_left _ (List.mem_append_left _ (List.mem_append_left _ (List.mem_append_left _ (List.mem_append_left _ (List.mem_append_left _ (List.mem_append_right _ h))))))
theorem inlX7 : ∀ w ∈ wsX70, w ∈ wsL_law := fun _ h => List.mem_append_left _ (List.mem_append_left _ (List.mem_append_left _ (List.mem_append_left _ (List.mem_append_left _ (List.mem_append_left _ (List.mem_append_left _ (List.mem_append_left _ (List.mem_append_right _ h))))))))
theorem inlX8 : ∀ w ∈ wsX80, w ∈ wsL_law := fun _ h => List.mem_append_left _ (List.mem_append_left _ (List.mem_append_left _ (List.mem_append_left _ (List.mem_append_left _ (List.mem_append_left _ (List.mem_append_left _ (List.mem_append_left _ (List.mem_append_left _ (List.mem_append_left _ (List.mem_append_left _ (List.mem_append_right _ h)))))))))))
theorem inlX9 : ∀ w ∈ wsX90, w ∈ wsL_law := fun _ h => List.mem_append_left _ (List.mem_append_left _ (List.mem_append_left _ (List.mem_append_left _ (List.mem_append_left _ (List.mem_append_left _ (List.mem_append_left _ (List.mem_append_left _ (List.mem_append_left _ (List.mem_append_right _ h)))))))))
theorem inlX10 : ∀ w ∈ wsX100, w ∈ wsL_law := fun _ h => List.mem_append_left _ (List.mem_append_left _ (List.mem_append_left _ (List.mem_append_left _ (List.mem_append_right _ h))))
theorem inlX11 : ∀ w ∈ wsX110, w ∈ wsL_law := fun _ h => List.mem_append_left _ (List.mem_append_left _ (List.mem_append_left _ (List.mem_append_left _ (List.mem_append_left _ (List.mem_append_left _ (List.mem_append_left _ (List.mem_append_left _ (List.mem_append_left _ (List.mem_append_left _ (List.mem_append_left _ (List.mem_append_left _ (List.mem_append_right _ h))))))))))))
abbrev vwCl : List vw_C := [(RX0, TX0, 3), (RX1, TX1, 3), (RX2, TX2, 3), (RX3, TX3, 2), (RX4, TX4, 4), (RX5, TX5, 5), (RX6, TX6, 4), (RX7, TX7, 5), (RX8, TX8, 5), (RX9, TX9, 7), (RX10, TX10, 8), (RX11, TX11, 9)]
end
section
def am_cn : Nat → String := fun c => match c with
  | 0 => RX0
  | 1 => RX1
  | 2 => RX2
  | 3 => RX3
  | 4 => RX4
  | 5 => RX5
  | 6 => RX6
  | 7 => RX7
  | 8 => RX8
  | 9 => RX9
  | 10 => RX10
  | 11 => RX11
  | 12 => RX12
  | 13 => RJ9
  | _ => RL
def am_tys : Nat → Nat → FieldType := fun c => match c with
  | 0 => tyX0
  | 1 => tyX1
  | 2 => tyX2
  | 3 => tyX3
  | 4 => tyX4
  | 5 => tyX5
  | 6 => tyX6
  | 7 => tyX7
  | 8 => tyX8
  | 9 => tyX9
  | 10 => tyX10
  | 11 => tyX11
  | _ => tyX12
def am_fldL : Nat → List (Nat × Nat × Nat) := fun c => match c with
  | 0 => [(9, 0, 0), (19, 0, 1), (23, 0, 2)]
  | 1 => [(11, 1, 0), (18, 1, 1), (22, 1, 2)]
  | 2 => [(11, 2, 0), (17, 2, 2), (29, 2, 1)]
  | 3 => [(9, 3, 0), (15, 3, 1)]
  | 4 => [(12, 4, 0), (18, 4, 1), (21, 4, 2), (24, 4, 3), (30, 10, 4), (63, 10, 0), (65, 10, 1), (67, 5, 4)]
  | 5 => [(9, 5, 0), (15, 5, 1), (18, 5, 2), (28, 5, 3), (31, 5, 4), (56, 10, 0), (62, 10, 1), (65, 10, 2), (68, 10, 4), (71, 10, 5), (74, 10, 6), (77, 10, 7), (80, 10, 3)]
  | 6 => [(11, 6, 0), (18, 6, 1), (22, 6, 2), (25, 6, 3), (29, 5, 2), (58, 5, 4), (72, 10, 0), (79, 10, 4), (82, 10, 5), (85, 10, 6), (88, 10, 7)]
  | 7 => [(9, 7, 0), (15, 7, 1), (18, 7, 2), (23, 7, 3), (39, 7, 4)]
  | 8 => [(12, 8, 0), (21, 8, 1), (28, 8, 2), (32, 8, 3), (37, 8, 4)]
  | 9 => [(9, 9, 0), (15, 9, 1), (18, 9, 2), (22, 9, 5), (26, 9, 6), (29, 9, 3), (32, 9, 4)]
  | 10 => [(11, 10, 0), (17, 10, 1), (20, 10, 2), (27, 10, 3), (30, 10, 4), (33, 10, 5), (36, 10, 6), (39, 10, 7)]
  | 11 => [(12, 11, 0), (19, 11, 1), (23, 11, 2), (30, 11, 3), (37, 11, 4), (44, 11, 5), (51, 11, 6), (58, 11, 7), (65, 11, 8), (120, 8, 1), (198, 8, 2), (237, 5, 2), (82, 8, 0), (109, 8, 3), (117, 8, 4), (176, 0, 1), (180, 0, 2), (336, 10, 5), (284, 10, 0), (287, 10, 1), (290, 10, 2), (293, 10, 6)]
  | _ => []
def am_conL : Nat → List (Nat × Int32) := fun c => match c with
  | 0 => [(18, -1000009)]
  | 3 => [(34, -1000009)]
  | 4 => [(62, -1000009)]
  | 5 => [(38, -1000001), (61, -1000009)]
  | 8 => [(36, -1000009)]
  | 9 => [(21, -1000009)]
  | 10 => [(48, -1000009)]
  | 11 => [(115, -1000009), (77, -1000001), (116, 1000000), (134, -1000002), (135, -1000003)]
  | 14 => [(7, 747796405), (8, 2147483647), (39, -1000009), (95, -1000001)]
  | _ => []
def am_lngL : Nat → List (Nat × Int64) := fun c => match c with
  | 3 => [(42, -1)]
  | 7 => [(73, -1)]
  | 10 => [(9, 10000), (49, 20)]
  | 11 => [(308, -1), (296, 10)]
  | _ => []
def am_newL : Nat → List (Nat × Nat) := fun c => match c with
  | 1 => [(9, 0)]
  | 2 => [(9, 8)]
  | 4 => [(9, 10)]
  | 6 => [(9, 10)]
  | 7 => [(21, 0)]
  | 8 => [(9, 3), (18, 1), (25, 5)]
  | 11 => [(9, 8), (16, 2), (27, 9), (34, 7), (41, 4), (48, 6), (55, 0), (62, 10)]
  | 14 => [(10, 11)]
  | _ => []
abbrev am_I : Type := Nat × ByteArray × MethodName × Nat × Option FieldType × Nat × Nat
abbrev mX0_init : am_I := (0, cX0_init, yX0_init, 1, none, 2, 21)
abbrev mX0_clear : am_I := (0, cX0_clear, yX0_clear, 2, none, 1, 0)
abbrev mX0_shows : am_I := (0, cX0_shows, yX0_shows, 2, (some .int), 2, 20)
abbrev mX0_show : am_I := (0, cX0_show, yX0_show, 3, none, 2, 20)
abbrev mX0_readFrom : am_I := (0, cX0_readFrom, yX0_readFrom, 2, none, 3, 61)
abbrev mX0_copyFrom : am_I := (0, cX0_copyFrom, yX0_copyFrom, 2, none, 1, 40)
abbrev mX1_init : am_I := (1, cX1_init, yX1_init, 2, none, 3, 41)
abbrev mX1_size : am_I := (1, cX1_size, yX1_size, 1, (some .int), 1, 0)
abbrev mX1_has : am_I := (1, cX1_has, yX1_has, 2, (some .boolean), 1, 0)
abbrev mX1_at : am_I := (1, cX1_at, yX1_at, 3, (some (.object "CardTabulator$Card")), 1, 0)
abbrev mX1_put : am_I := (1, cX1_put, yX1_put, 3, none, 1, 0)
abbrev mX1_insertBlank : am_I := (1, cX1_insertBlank, yX1_insertBlank, 3, (some (.object "CardTabulator$Card")), 3, 46)
abbrev mX1_remove : am_I := (1, cX1_remove, yX1_remove, 2, none, 3, 46)
abbrev mX1_carry : am_I := (1, cX1_carry, yX1_carry, 5, none, 2, 22)
abbrev mX1_copyFrom : am_I := (1, cX1_copyFrom, yX1_copyFrom, 3, none, 2, 61)
abbrev mX2_init : am_I := (2, cX2_init, yX2_init, 1, none, 1, 20)
abbrev mX2_size : am_I := (2, cX2_size, yX2_size, 1, (some .int), 1, 0)
abbrev mX2_isEmpty : am_I := (2, cX2_isEmpty, yX2_isEmpty, 1, (some .boolean), 1, 0)
abbrev mX2_record : am_I := (2, cX2_record, yX2_record, 2, none, 6, 105)
abbrev mX2_restoreInto : am_I := (2, cX2_restoreInto, yX2_restoreInto, 2, none, 6, 105)
abbrev mX2_at : am_I := (2, cX2_at, yX2_at, 4, (some (.object "CardTabulator$State")), 5, 82)
abbrev mX3_init : am_I := (3, cX3_init, yX3_init, 1, none, 1, 20)
abbrev mX3_firstOf : am_I := (3, cX3_firstOf, yX3_firstOf, 2, (some .int), 2, 20)
abbrev mX3_widthOf : am_I := (3, cX3_widthOf, yX3_widthOf, 2, (some .int), 2, 20)
abbrev mX3_place : am_I := (3, cX3_place, yX3_place, 4, none, 2, 20)
abbrev mX3_valueOn : am_I := (3, cX3_valueOn, yX3_valueOn, 8, (some .int), 3, 41)
abbrev mX3_dueOn : am_I := (3, cX3_dueOn, yX3_dueOn, 4, (some .int), 4, 68)
abbrev mX3_weighedDigits : am_I := (3, cX3_weighedDigits, yX3_weighedDigits, 8, (some .int), 3, 41)
abbrev mX3_keyOn : am_I := (3, cX3_keyOn, yX3_keyOn, 5, (some .long), 4, 68)
abbrev mX3_copyFrom : am_I := (3, cX3_copyFrom, yX3_copyFrom, 2, none, 1, 40)
abbrev mX4_init : am_I := (4, cX4_init, yX4_init, 1, none, 2, 40)
abbrev mX4_begin : am_I := (4, cX4_begin, yX4_begin, 1, none, 2, 20)
abbrev mX4_accept : am_I := (4, cX4_accept, yX4_accept, 4, none, 4, 69)
abbrev mX4_end : am_I := (4, cX4_end, yX4_end, 2, none, 3, 46)
abbrev mX4_breakBefore : am_I := (4, cX4_breakBefore, yX4_breakBefore, 4, none, 3, 46)
abbrev mX4_breakWorker : am_I := (4, cX4_breakWorker, yX4_breakWorker, 3, none, 2, 24)
abbrev mX4_breakGroup : am_I := (4, cX4_breakGroup, yX4_breakGroup, 2, none, 2, 24)
abbrev mX4_breakDepartment : am_I := (4, cX4_breakDepartment, yX4_breakDepartment, 2, none, 2, 24)
abbrev mX5_init : am_I := (5, cX5_init, yX5_init, 1, none, 1, 20)
abbrev mX5_begin : am_I := (5, cX5_begin, yX5_begin, 3, none, 1, 21)
abbrev mX5_isEmpty : am_I := (5, cX5_isEmpty, yX5_isEmpty, 1, (some .boolean), 1, 0)
abbrev mX5_has : am_I := (5, cX5_has, yX5_has, 2, (some .boolean), 1, 0)
abbrev mX5_hadCard : am_I := (5, cX5_hadCard, yX5_hadCard, 2, (some .boolean), 1, 0)
abbrev mX5_reasonOf : am_I := (5, cX5_reasonOf, yX5_reasonOf, 2, (some .int), 2, 21)
abbrev mX5_judge : am_I := (5, cX5_judge, yX5_judge, 3, none, 2, 21)
abbrev mX5_refusedCards : am_I := (5, cX5_refusedCards, yX5_refusedCards, 3, (some .int), 3, 42)
abbrev mX5_number : am_I := (5, cX5_number, yX5_number, 3, (some .int), 2, 22)
abbrev mX5_lastLine : am_I := (5, cX5_lastLine, yX5_lastLine, 2, (some .int), 3, 44)
abbrev mX5_sumOfWorkers : am_I := (5, cX5_sumOfWorkers, yX5_sumOfWorkers, 3, (some .int), 4, 65)
abbrev mX5_isCard : am_I := (5, cX5_isCard, yX5_isCard, 2, (some .boolean), 3, 44)
abbrev mX5_print : am_I := (5, cX5_print, yX5_print, 5, none, 1, 0)
abbrev mX5_readCard : am_I := (5, cX5_readCard, yX5_readCard, 3, none, 3, 44)
abbrev mX5_copyFrom : am_I := (5, cX5_copyFrom, yX5_copyFrom, 2, none, 1, 40)
abbrev mX6_init : am_I := (6, cX6_init, yX6_init, 2, none, 2, 40)
abbrev mX6_size : am_I := (6, cX6_size, yX6_size, 1, (some .int), 1, 0)
abbrev mX6_at : am_I := (6, cX6_at, yX6_at, 3, (some (.object "CardTabulator$Totals")), 1, 0)
abbrev mX6_reckon : am_I := (6, cX6_reckon, yX6_reckon, 3, none, 4, 66)
abbrev mX6_ofKey : am_I := (6, cX6_ofKey, yX6_ofKey, 4, (some (.object "CardTabulator$Totals")), 3, 42)
abbrev mX6_sum : am_I := (6, cX6_sum, yX6_sum, 5, (some .int), 2, 22)
abbrev mX6_numberOf : am_I := (6, cX6_numberOf, yX6_numberOf, 2, (some .int), 1, 0)
abbrev mX6_rank : am_I := (6, cX6_rank, yX6_rank, 4, none, 4, 63)
abbrev mX6_put : am_I := (6, cX6_put, yX6_put, 3, none, 1, 0)
abbrev mX6_isAhead : am_I := (6, cX6_isAhead, yX6_isAhead, 2, (some .boolean), 3, 42)
abbrev mX7_init : am_I := (7, cX7_init, yX7_init, 1, none, 1, 20)
abbrev mX7_begin : am_I := (7, cX7_begin, yX7_begin, 3, none, 2, 21)
abbrev mX7_passBy : am_I := (7, cX7_passBy, yX7_passBy, 6, none, 5, 86)
abbrev mX7_findStarts : am_I := (7, cX7_findStarts, yX7_findStarts, 4, none, 4, 63)
abbrev mX7_stackOf : am_I := (7, cX7_stackOf, yX7_stackOf, 3, (some .int), 3, 41)
abbrev mX7_arrange : am_I := (7, cX7_arrange, yX7_arrange, 4, (some .int), 2, 22)
abbrev mX7_isInKeyOrder : am_I := (7, cX7_isInKeyOrder, yX7_isInKeyOrder, 8, (some .boolean), 5, 92)
abbrev mX8_init : am_I := (8, cX8_init, yX8_init, 1, none, 4, 62)
abbrev mX8_settingOf : am_I := (8, cX8_settingOf, yX8_settingOf, 2, (some .int), 2, 20)
abbrev mX8_copyFrom : am_I := (8, cX8_copyFrom, yX8_copyFrom, 2, none, 3, 83)
abbrev mX9_init : am_I := (9, cX9_init, yX9_init, 1, none, 1, 20)
abbrev mX9_size : am_I := (9, cX9_size, yX9_size, 1, (some .int), 1, 0)
abbrev mX9_clear : am_I := (9, cX9_clear, yX9_clear, 1, none, 1, 0)
abbrev mX9_append : am_I := (9, cX9_append, yX9_append, 2, none, 1, 0)
abbrev mX9_at : am_I := (9, cX9_at, yX9_at, 2, (some .int), 1, 0)
abbrev mX9_readsAsCard : am_I := (9, cX9_readsAsCard, yX9_readsAsCard, 4, (some .boolean), 5, 85)
abbrev mX9_noteFault : am_I := (9, cX9_noteFault, yX9_noteFault, 3, (some .boolean), 1, 0)
abbrev mX9_readBetweenWords : am_I := (9, cX9_readBetweenWords, yX9_readBetweenWords, 4, (some .int), 3, 41)
abbrev mX9_readInWord : am_I := (9, cX9_readInWord, yX9_readInWord, 4, (some .int), 4, 62)
abbrev mX9_countDigit : am_I := (9, cX9_countDigit, yX9_countDigit, 2, (some .int), 3, 41)
abbrev mX9_hasWord : am_I := (9, cX9_hasWord, yX9_hasWord, 2, (some .boolean), 1, 0)
abbrev mX9_endsBehindLetter : am_I := (9, cX9_endsBehindLetter, yX9_endsBehindLetter, 1, (some .boolean), 3, 41)
abbrev mX9_digitsOf : am_I := (9, cX9_digitsOf, yX9_digitsOf, 2, (some .int), 2, 20)
abbrev mX9_isTextField : am_I := (9, cX9_isTextField, yX9_isTextField, 1, (some .boolean), 1, 0)
abbrev mX9_fieldOf : am_I := (9, cX9_fieldOf, yX9_fieldOf, 1, (some .int), 1, 0)
abbrev mX9_punchOn : am_I := (9, cX9_punchOn, yX9_punchOn, 4, none, 4, 69)
abbrev mX9_punchNumber : am_I := (9, cX9_punchNumber, yX9_punchNumber, 8, none, 3, 42)
abbrev mX10_init : am_I := (10, cX10_init, yX10_init, 1, none, 1, 20)
abbrev mX10_keyOf : am_I := (10, cX10_keyOf, yX10_keyOf, 3, (some .long), 1, 0)
abbrev mX10_key : am_I := (10, cX10_key, yX10_key, 1, (some .long), 2, 22)
abbrev mX10_clear : am_I := (10, cX10_clear, yX10_clear, 1, none, 1, 0)
abbrev mX10_fillFrom : am_I := (10, cX10_fillFrom, yX10_fillFrom, 3, (some .boolean), 4, 68)
abbrev mX10_addCard : am_I := (10, cX10_addCard, yX10_addCard, 2, none, 1, 0)
abbrev mX10_overtimeBeyond : am_I := (10, cX10_overtimeBeyond, yX10_overtimeBeyond, 2, (some .int), 1, 0)
abbrev mX10_addOvertime : am_I := (10, cX10_addOvertime, yX10_addOvertime, 2, none, 1, 0)
abbrev mX11_init : am_I := (11, cX11_init, yX11_init, 1, none, 5, 82)
abbrev mX11_lay : am_I := (11, cX11_lay, yX11_lay, 5, (some .int), 7, 126)
abbrev mX11_set : am_I := (11, cX11_set, yX11_set, 4, (some .int), 7, 126)
abbrev mX11_control : am_I := (11, cX11_control, yX11_control, 4, (some .int), 7, 126)
abbrev mX11_punch : am_I := (11, cX11_punch, yX11_punch, 3, (some .int), 7, 126)
abbrev mX11_take : am_I := (11, cX11_take, yX11_take, 2, (some .int), 7, 126)
abbrev mX11_move : am_I := (11, cX11_move, yX11_move, 3, (some .int), 7, 126)
abbrev mX11_repunch : am_I := (11, cX11_repunch, yX11_repunch, 6, (some .int), 7, 126)
abbrev mX11_mark : am_I := (11, cX11_mark, yX11_mark, 6, (some .int), 7, 126)
abbrev mX11_pass : am_I := (11, cX11_pass, yX11_pass, 2, (some .int), 7, 126)
abbrev mX11_sort : am_I := (11, cX11_sort, yX11_sort, 3, (some .int), 7, 126)
abbrev mX11_run : am_I := (11, cX11_run, yX11_run, 2, (some .int), 8, 165)
abbrev mX11_undo : am_I := (11, cX11_undo, yX11_undo, 1, (some .int), 7, 126)
abbrev mX11_write : am_I := (11, cX11_write, yX11_write, 2, (some .int), 2, 22)
abbrev mX11_wipe : am_I := (11, cX11_wipe, yX11_wipe, 2, (some .int), 2, 20)
abbrev mX11_told : am_I := (11, cX11_told, yX11_told, 2, (some .int), 7, 139)
abbrev mX11_setting : am_I := (11, cX11_setting, yX11_setting, 2, (some .int), 3, 41)
abbrev mX11_card : am_I := (11, cX11_card, yX11_card, 4, (some .int), 6, 112)
abbrev mX11_line : am_I := (11, cX11_line, yX11_line, 3, (some .int), 3, 44)
abbrev mX11_reason : am_I := (11, cX11_reason, yX11_reason, 2, (some .int), 3, 42)
abbrev mX11_differs : am_I := (11, cX11_differs, yX11_differs, 2, (some .int), 6, 108)
abbrev mX11_again : am_I := (11, cX11_again, yX11_again, 3, (some .int), 5, 88)
abbrev mX11_agrees : am_I := (11, cX11_agrees, yX11_agrees, 2, (some .int), 5, 88)
abbrev mX11_ranked : am_I := (11, cX11_ranked, yX11_ranked, 4, (some .int), 5, 88)
abbrev mX11_mean : am_I := (11, cX11_mean, yX11_mean, 2, (some .float), 4, 65)
abbrev mX11_passes : am_I := (11, cX11_passes, yX11_passes, 3, (some .int), 7, 135)
abbrev mX11_accepts : am_I := (11, cX11_accepts, yX11_accepts, 2, (some .int), 8, 165)
abbrev mX11_keep : am_I := (11, cX11_keep, yX11_keep, 3, (some .int), 5, 104)
abbrev mX11_back : am_I := (11, cX11_back, yX11_back, 3, (some .int), 7, 126)
abbrev mX11_feedDeck : am_I := (11, cX11_feedDeck, yX11_feedDeck, 9, (some .int), 7, 137)
abbrev mX11_printJudged : am_I := (11, cX11_printJudged, yX11_printJudged, 3, none, 5, 92)
abbrev mX11_refusal : am_I := (11, cX11_refusal, yX11_refusal, 6, (some .int), 6, 112)
abbrev mX11_faultOfCard : am_I := (11, cX11_faultOfCard, yX11_faultOfCard, 2, (some .int), 5, 91)
abbrev mX11_acceptedTotal : am_I := (11, cX11_acceptedTotal, yX11_acceptedTotal, 2, (some .int), 5, 87)
abbrev mX11_isDeckInOrder : am_I := (11, cX11_isDeckInOrder, yX11_isDeckInOrder, 1, (some .boolean), 6, 119)
abbrev mX11_passByKeyColumns : am_I := (11, cX11_passByKeyColumns, yX11_passByKeyColumns, 5, none, 6, 111)
abbrev mX11_isWithin : am_I := (11, cX11_isWithin, yX11_isWithin, 3, (some .boolean), 1, 0)
abbrev mX11_isField : am_I := (11, cX11_isField, yX11_isField, 1, (some .boolean), 1, 0)
abbrev mX11_isColumn : am_I := (11, cX11_isColumn, yX11_isColumn, 1, (some .boolean), 1, 0)
abbrev mX11_isSetting : am_I := (11, cX11_isSetting, yX11_isSetting, 1, (some .boolean), 1, 0)
abbrev mX11_isControl : am_I := (11, cX11_isControl, yX11_isControl, 1, (some .boolean), 1, 0)
abbrev mX11_fits : am_I := (11, cX11_fits, yX11_fits, 4, (some .boolean), 2, 22)
abbrev mJ9_floorMod_7cf53 : am_I := (13, cJ9_floorMod_7cf53, yJ9_floorMod_7cf53, 3, (some .int), 1, 0)
abbrev mL_cell : am_I := (14, cL_cell, yL_cell, 2, (some .int), 1, 0)
abbrev mL_low : am_I := (14, cL_low, yL_low, 2, (some .int), 1, 0)
abbrev mL_number : am_I := (14, cL_number, yL_number, 4, (some .int), 3, 43)
abbrev mL_write : am_I := (14, cL_write, yL_write, 3, (some .int), 4, 66)
abbrev mL_change : am_I := (14, cL_change, yL_change, 6, (some .int), 9, 186)
abbrev mL_isReport : am_I := (14, cL_isReport, yL_isReport, 9, (some .boolean), 8, 160)
abbrev mL_isAgain : am_I := (14, cL_isAgain, yL_isAgain, 9, (some .boolean), 8, 160)
abbrev mL_isSorted : am_I := (14, cL_isSorted, yL_isSorted, 5, (some .boolean), 8, 160)
abbrev mL_isAccepted : am_I := (14, cL_isAccepted, yL_isAccepted, 11, (some .boolean), 9, 186)
abbrev mL_areAlike : am_I := (14, cL_areAlike, yL_areAlike, 5, (some .boolean), 8, 160)
abbrev mL_law : am_I := (14, cL_law, yL_law, 6, some .boolean, 11, 432)
def am_callL : Nat → List (Nat × Nat × Nat × am_I) := fun c => match c with
  | 0 => [(15, 0, 0, mX0_clear), (26, 4, 1, mX11_isColumn), (30, 0, 1, mX0_copyFrom), (40, 0, 2, mX0_show)]
  | 1 => [(17, 2, 0, mX0_init), (26, 0, 1, mX1_at), (30, 0, 0, mX0_clear), (33, 0, 2, mX1_carry), (37, 0, 1, mX1_has), (41, 0, 2, mX1_put), (45, 0, 1, mX0_copyFrom)]
  | 2 => [(21, 0, 1, mX2_at), (25, 0, 1, mX8_copyFrom), (32, 1, 2, mJ9_floorMod_7cf53), (38, 5, 0, mX8_init)]
  | 3 => [(18, 4, 1, mX11_isField), (22, 0, 1, mX3_firstOf), (26, 0, 1, mX3_widthOf), (29, 0, 1, mX0_shows), (35, 0, 2, mX3_weighedDigits), (39, 0, 2, mX3_valueOn), (44, 1, 3, mX10_keyOf)]
  | 4 => [(11, 5, 0, mX10_init), (27, 0, 0, mX10_clear), (34, 0, 0, mX10_key), (38, 0, 2, mX4_breakBefore), (42, 0, 3, mX5_print), (48, 0, 1, mX10_addCard), (52, 0, 1, mX4_breakWorker), (56, 0, 1, mX4_breakGroup), (59, 0, 1, mX4_breakDepartment), (70, 0, 1, mX10_overtimeBeyond), (74, 0, 1, mX10_addOvertime)]
  | 5 => [(34, 0, 1, mX5_hadCard), (39, 0, 1, mX5_reasonOf), (43, 4, 3, mX11_isWithin), (47, 0, 1, mX5_has), (50, 0, 2, mX5_number), (53, 0, 1, mX5_isCard)]
  | 6 => [(17, 5, 0, mX10_init), (34, 0, 1, mX5_isCard), (38, 0, 2, mX5_readCard), (42, 0, 0, mX10_key), (46, 0, 1, mX6_ofKey), (50, 0, 1, mX10_addCard), (54, 0, 1, mX6_at), (61, 0, 1, mX10_overtimeBeyond), (65, 0, 1, mX10_addOvertime), (69, 0, 0, mX10_clear), (75, 1, 2, mX6_numberOf), (91, 1, 2, mX6_isAhead), (95, 0, 2, mX6_put)]
  | 7 => [(27, 0, 0, mX1_size), (43, 0, 2, mX7_findStarts), (47, 0, 1, mX1_at), (51, 1, 2, mX7_stackOf), (61, 0, 1, mX0_shows), (65, 4, 3, mX11_isWithin), (69, 0, 2, mX1_put), (75, 0, 1, mX3_keyOn)]
  | 8 => [(11, 5, 0, mX3_init), (20, 2, 0, mX1_init), (27, 5, 0, mX5_init), (40, 4, 1, mX11_isSetting), (44, 0, 1, mX3_copyFrom), (48, 0, 1, mX1_copyFrom), (51, 0, 1, mX5_copyFrom)]
  | 9 => [(35, 0, 1, mX9_readBetweenWords), (39, 0, 2, mX9_readInWord), (43, 0, 2, mX9_noteFault), (47, 0, 0, mX9_hasWord), (51, 0, 0, mX9_endsBehindLetter), (54, 0, 1, mX9_at), (57, 1, 1, mX9_fieldOf), (60, 0, 1, mX9_digitsOf), (63, 1, 1, mX9_isTextField), (67, 4, 3, mX11_isWithin), (71, 0, 1, mX3_widthOf), (76, 0, 1, mX9_countDigit), (79, 0, 3, mX9_punchNumber), (83, 0, 1, mX3_firstOf), (86, 0, 2, mX0_show)]
  | 10 => [(23, 1, 3, mX10_keyOf), (42, 0, 2, mX3_valueOn)]
  | 11 => [(11, 5, 0, mX8_init), (18, 5, 0, mX2_init), (29, 5, 0, mX9_init), (36, 5, 0, mX7_init), (43, 5, 0, mX4_init), (50, 2, 0, mX6_init), (57, 2, 0, mX0_init), (64, 5, 0, mX10_init), (69, 1, 1, mX11_isField), (73, 1, 3, mX11_fits), (78, 0, 1, mX2_record), (86, 0, 1, mX3_firstOf), (92, 0, 3, mX3_place), (96, 1, 1, mX11_isSetting), (103, 1, 3, mX11_isWithin), (106, 0, 1, mX8_settingOf), (112, 1, 1, mX11_isControl), (124, 0, 0, mX1_size), (130, 0, 1, mX9_readsAsCard), (136, 0, 1, mX1_insertBlank), (140, 0, 2, mX9_punchOn), (144, 0, 1, mX3_dueOn), (148, 0, 2, mX0_show), (152, 0, 1, mX1_has), (155, 0, 1, mX1_remove), (159, 0, 2, mX1_carry), (167, 1, 1, mX11_isColumn), (170, 0, 1, mX1_at), (173, 0, 1, mX0_shows), (183, 0, 1, mX7_begin), (187, 0, 2, mX7_passBy), (191, 0, 1, mX7_arrange), (195, 0, 1, mX3_widthOf), (202, 0, 2, mX5_begin), (206, 0, 0, mX4_begin), (208, 0, 2, mX11_feedDeck), (212, 0, 1, mX4_end), (216, 0, 0, mX2_isEmpty), (220, 0, 1, mX2_restoreInto), (223, 0, 0, mX2_size), (224, 0, 0, mX9_size), (225, 0, 1, mX9_append), (228, 0, 0, mX9_clear), (240, 0, 0, mX5_isEmpty), (241, 0, 1, mX5_lastLine), (244, 0, 0, mX5_refusedCards), (247, 0, 0, mX11_isDeckInOrder), (250, 0, 2, mX3_valueOn), (254, 0, 1, mX11_faultOfCard), (257, 0, 1, mX5_has), (258, 0, 2, mX5_number), (262, 0, 1, mX5_hadCard), (265, 0, 1, mX5_reasonOf), (268, 0, 1, mX11_acceptedTotal), (271, 0, 1, mX6_reckon), (274, 0, 2, mX6_sum), (277, 0, 0, mX6_size), (278, 0, 0, mX6_rank), (281, 0, 1, mX6_at), (298, 0, 1, mX11_passByKeyColumns), (301, 0, 2, mX7_isInKeyOrder), (305, 0, 1, mX8_copyFrom), (310, 0, 3, mX11_refusal), (314, 0, 0, mX10_key), (318, 0, 2, mX11_printJudged), (321, 0, 2, mX5_judge), (324, 0, 3, mX4_accept), (328, 0, 1, mX0_readFrom), (332, 0, 2, mX10_fillFrom), (339, 0, 0, mX5_sumOfWorkers)]
  | 14 => [(9, 0, 1, mX11_write), (15, 0, 0, mX11_wipe), (19, 1, 2, mL_low), (25, 1, 3, mL_number), (29, 0, 1, mX11_told), (32, 0, 3, mX11_lay), (36, 0, 2, mX11_set), (40, 0, 2, mX11_control), (43, 0, 1, mX11_take), (46, 0, 2, mX11_move), (49, 0, 3, mX11_repunch), (52, 0, 3, mX11_mark), (55, 0, 1, mX11_pass), (58, 0, 1, mX11_sort), (61, 0, 0, mX11_run), (64, 0, 0, mX11_undo), (67, 0, 1, mX11_keep), (70, 0, 1, mX11_back), (73, 1, 2, mL_write), (76, 0, 1, mX11_punch), (79, 0, 0, mX11_agrees), (82, 0, 0, mX11_mean), (86, 0, 2, mX11_again), (89, 0, 2, mX11_line), (92, 0, 1, mX11_reason), (96, 0, 2, mX11_ranked), (99, 0, 1, mX11_differs), (102, 0, 0, mX11_passes), (105, 0, 1, mX11_accepts), (108, 0, 2, mX11_card), (111, 0, 1, mX11_setting), (114, 2, 0, mX11_init), (115, 1, 2, mL_cell), (119, 1, 3, mL_change), (122, 1, 1, mL_isReport), (126, 1, 1, mL_isAgain), (129, 1, 1, mL_isSorted), (132, 1, 2, mL_isAccepted), (136, 1, 2, mL_areAlike)]
  | _ => []
def am_spL : Nat → List (Nat × Nat) := fun c => match c with
  | 0 => [(3, 0), (34, 1)]
  | 1 => [(3, 0)]
  | 2 => [(3, 0)]
  | 3 => [(3, 0), (50, 1)]
  | 4 => [(3, 0)]
  | 5 => [(3, 0), (22, 2), (83, 1)]
  | 6 => [(3, 0)]
  | 7 => [(3, 0), (33, 2), (55, 1)]
  | 8 => [(3, 0), (54, 1)]
  | 9 => [(3, 0)]
  | 10 => [(3, 0)]
  | 11 => [(3, 0), (162, 3)]
  | _ => []
def am_anL : Nat → List (Nat × Nat) := fun c => match c with
  | 1 => [(9, 1)]
  | 2 => [(9, 2)]
  | 6 => [(9, 3)]
  | 7 => [(21, 1)]
  | 11 => [(9, 2)]
  | _ => []
/-! THE SMALL MACHINE: the same bytes, over a heap of numbered cells. Cells: an array (kind, length and contents; kinds 0 int, 1 Card, 2 State, 3 Totals, 9 an int array that nobody writes) or an object (class, fields). A heap: cells by address, the next address, the slots made so far. -/
abbrev am_C : Type := (Nat × vp_A) ⊕ (Nat × List Value)
abbrev am_H : Type := (Nat → Option am_C) × Nat × Nat
abbrev am_L : Type := List (Option Value)
abbrev am_R : Type := Option (Nat × am_L × List Value × am_H)
def am_kill (o : Option Value) : Option Value := match o with
  | some w => if w.category = 2 then none else some w
  | none => none
def am_tail (v : Value) (l : am_L) : am_L := if v.category = 2 then (match l with | [] => [] | _ :: l' => none :: l') else l
def am_set (v : Value) : Nat → am_L → am_L
  | _, [] => []
  | 0, _ :: l => some v :: am_tail v l
  | 1, o :: l => am_kill o :: am_set v 0 l
  | i + 2, o :: l => o :: am_set v (i + 1) l
def am_isI (v : Value) : Bool := match v with | .int _ => true | _ => false
def am_isL (v : Value) : Bool := match v with | .long _ => true | _ => false
def am_isD (v : Value) : Bool := match v with | .double _ => true | _ => false
def am_isA (v : Value) : Bool := match v with | .ref _ => true | .null => true | _ => false
def am_load (ok : Value → Bool) (i pc : Nat) (ls : am_L) (st : List Value) (H : am_H) : am_R := match ls[i]? with
  | some (some v) => if ok v = true then some (pc, ls, v :: st, H) else none
  | _ => none
def am_store (ok : Value → Bool) (i pc : Nat) (ls : am_L) (st : List Value) (H : am_H) : am_R := match st with
  | v :: st' => if ok v = true ∧ i + v.category ≤ ls.length then some (pc, am_set v i ls, st', H) else none
  | [] => none
def am_iinc (i : Nat) (k : Int) (pc : Nat) (ls : am_L) (st : List Value) (H : am_H) : am_R := match ls[i]? with
  | some (some (.int x)) => some (pc, am_set (.int (x + Int32.ofInt k)) i ls, st, H)
  | _ => none
def am_i2 (f : Int32 → Int32 → Option Int32) (pc : Nat) (ls : am_L) (st : List Value) (H : am_H) : am_R := match st with
  | .int y :: .int x :: st' => (match f x y with | some z => some (pc, ls, .int z :: st', H) | none => none)
  | _ => none
def am_l2 (f : Int64 → Int64 → Option Value) (pc : Nat) (ls : am_L) (st : List Value) (H : am_H) : am_R := match st with
  | .long y :: .long x :: st' => (match f x y with | some z => some (pc, ls, z :: st', H) | none => none)
  | _ => none
def am_u1 (f : Value → Option Value) (pc : Nat) (ls : am_L) (st : List Value) (H : am_H) : am_R := match st with
  | v :: st' => (match f v with | some z => some (pc, ls, z :: st', H) | none => none)
  | [] => none
def am_tgt (pc : Nat) (off : Int) (ls : am_L) (st : List Value) (H : am_H) : am_R := if 0 ≤ (pc : Int) + off then some (((pc : Int) + off).toNat, ls, st, H) else none
def am_c1 (k : ClassFile.Cond) (x : Int32) : Bool := match k with
  | .eq => decide (x = 0)
  | .ne => decide (¬ x = 0)
  | .lt => decide (x < 0)
  | .ge => decide (0 ≤ x)
  | .gt => decide (0 < x)
  | .le => decide (x ≤ 0)
def am_c2 (k : ClassFile.Cond) (x y : Int32) : Bool := match k with
  | .eq => decide (x = y)
  | .ne => decide (¬ x = y)
  | .lt => decide (x < y)
  | .ge => decide (y ≤ x)
  | .gt => decide (y < x)
  | .le => decide (x ≤ y)
def am_if1 (k : ClassFile.Cond) (off : Int) (pc : Nat) (ls : am_L) (st : List Value) (H : am_H) : am_R := match st with
  | .int x :: st' => if 0 ≤ (pc : Int) + off then some (if am_c1 k x = true then ((pc : Int) + off).toNat else pc + 3, ls, st', H) else none
  | _ => none
def am_if2 (k : ClassFile.Cond) (off : Int) (pc : Nat) (ls : am_L) (st : List Value) (H : am_H) : am_R := match st with
  | .int y :: .int x :: st' => if 0 ≤ (pc : Int) + off then some (if am_c2 k x y = true then ((pc : Int) + off).toNat else pc + 3, ls, st', H) else none
  | _ => none
def am_nn (off : Int) (pc : Nat) (ls : am_L) (st : List Value) (H : am_H) : am_R := match st with
  | .ref _ :: st' => am_tgt pc off ls st' H
  | .null :: st' => some (pc + 3, ls, st', H)
  | _ => none
def am_tsw (dflt lo hi : Int) (offs : Array Int) (pc : Nat) (ls : am_L) (st : List Value) (H : am_H) : am_R := match st with
  | .int x :: st' => if x.toInt < lo ∨ hi < x.toInt then am_tgt pc dflt ls st' H else (match offs[(x.toInt - lo).toNat]? with | some off => am_tgt pc off ls st' H | none => none)
  | _ => none
def am_lsw (dflt : Int) (ps : Array (Int × Int)) (pc : Nat) (ls : am_L) (st : List Value) (H : am_H) : am_R := match st with
  | .int x :: st' => if (ps.toList.zip (ps.toList.drop 1)).all (fun (a, next) => a.1 < next.1) = true then am_tgt pc (Op.lookupswitch.offset ps.toList dflt x.toInt) ls st' H else none
  | _ => none
def am_dup (pc : Nat) (ls : am_L) (st : List Value) (H : am_H) : am_R := match st with
  | v :: st' => if v.category = 1 then some (pc, ls, v :: v :: st', H) else none
  | [] => none
def am_dup2 (pc : Nat) (ls : am_L) (st : List Value) (H : am_H) : am_R := match st with
  | v :: w :: st' => if v.category = 1 ∧ w.category = 1 then some (pc, ls, v :: w :: v :: w :: st', H) else none
  | _ => none
def am_okv (ty : FieldType) (v : Value) : Bool := match ty, v with
  | .int, .int _ => true
  | .object _, .ref _ => true
  | .object _, .null => true
  | .array _, .ref _ => true
  | .array _, .null => true
  | _, _ => false
def am_ini (mi : am_I) : Bool := mi.2.2.1.name == "<init>"
def am_getf (c cp pc : Nat) (ls : am_L) (st : List Value) (H : am_H) : am_R := match st, (am_fldL c).lookup cp with
  | .ref a :: st', some (ci, k) => (match H.1 a with
    | some (.inr (cj, fs)) => if cj = ci then (match fs[k]? with | some v => some (pc, ls, v :: st', H) | none => none) else none
    | _ => none)
  | _, _ => none
def am_fin (ci k : Nat) : Bool := match vwCl[ci]? with
  | some r => (r.2.1 k).2.2.2
  | none => true
def am_putf (ini : Bool) (c cp pc : Nat) (ls : am_L) (st : List Value) (H : am_H) : am_R := match st, (am_fldL c).lookup cp with
  | v :: .ref a :: st', some (ci, k) => (match H.1 a with
    | some (.inr (cj, fs)) => if cj = ci ∧ am_okv (am_tys ci k) v = true ∧ (am_fin ci k = false ∨ (ini = true ∧ ci = c)) then some (pc, ls, st', va_up H.1 a (some (.inr (ci, fs.set k v))), H.2.1, H.2.2) else none
    | _ => none)
  | _, _ => none
def am_gets (sA c cp pc : Nat) (ls : am_L) (st : List Value) (H : am_H) : am_R := if c = 11 ∧ cp = 99 then some (pc, ls, .ref sA :: st, H) else none
def am_bl (ci : Nat) : List Value := match vwCl[ci]? with
  | some r => (List.range r.2.2).map (fun k => defaultValue (am_tys ci k))
  | none => []
def am_nf (ci : Nat) : Nat := match vwCl[ci]? with
  | some r => r.2.2
  | none => 0
def am_new (c cp pc : Nat) (ls : am_L) (st : List Value) (H : am_H) : am_R := match (am_newL c).lookup cp with
  | some ci => some (pc, ls, .ref H.2.1 :: st, va_up H.1 H.2.1 (some (.inr (ci, am_bl ci))), H.2.1 + 1, H.2.2 + am_nf ci)
  | none => none
def am_newa (pc : Nat) (ls : am_L) (st : List Value) (H : am_H) : am_R := match st with
  | .int n :: st' => if 0 ≤ n ∧ n.toNatClampNeg ≤ 100000 then some (pc, ls, .ref H.2.1 :: st', va_up H.1 H.2.1 (some (.inl (0, n.toNatClampNeg, .inl (fun _ => 0)))), H.2.1 + 1, H.2.2 + n.toNatClampNeg) else none
  | _ => none
def am_anew (c cp pc : Nat) (ls : am_L) (st : List Value) (H : am_H) : am_R := match st, (am_anL c).lookup cp with
  | .int n :: st', some t => if 0 ≤ n ∧ n.toNatClampNeg ≤ 100000 then some (pc, ls, .ref H.2.1 :: st', va_up H.1 H.2.1 (some (.inl (t, n.toNatClampNeg, .inr (.inr (.inr (.inr (fun _ => none))))))), H.2.1 + 1, H.2.2 + n.toNatClampNeg) else none
  | _, _ => none
def am_iald (pc : Nat) (ls : am_L) (st : List Value) (H : am_H) : am_R := match st with
  | .int i :: .ref a :: st' => (match H.1 a with
    | some (.inl (t, n, .inl f)) => if (t = 0 ∨ t = 9) ∧ 0 ≤ i ∧ i.toNatClampNeg < n then some (pc, ls, .int (f i.toNatClampNeg) :: st', H) else none
    | _ => none)
  | _ => none
def am_iast (pc : Nat) (ls : am_L) (st : List Value) (H : am_H) : am_R := match st with
  | .int x :: .int i :: .ref a :: st' => (match H.1 a with
    | some (.inl (t, n, .inl f)) => if t = 0 ∧ 0 ≤ i ∧ i.toNatClampNeg < n then some (pc, ls, st', va_up H.1 a (some (.inl (0, n, .inl (upd f i.toNatClampNeg x)))), H.2.1, H.2.2) else none
    | _ => none)
  | _ => none
def am_aald (pc : Nat) (ls : am_L) (st : List Value) (H : am_H) : am_R := match st with
  | .int i :: .ref a :: st' => (match H.1 a with
    | some (.inl (t, n, .inr (.inr (.inr (.inr f))))) => if (0 < t ∧ t < 4) ∧ 0 ≤ i ∧ i.toNatClampNeg < n then some (pc, ls, va_rf (f i.toNatClampNeg) :: st', H) else none
    | _ => none)
  | _ => none
/-- the class of which an array of references of a kind holds -/
def am_comp (t : Nat) : Nat := match t with
  | 1 => 0
  | 2 => 8
  | _ => 10
def am_aast (pc : Nat) (ls : am_L) (st : List Value) (H : am_H) : am_R := match st with
  | .ref b :: .int i :: .ref a :: st' => (match H.1 a, H.1 b with
    | some (.inl (t, n, .inr (.inr (.inr (.inr f))))), some (.inr (ci, _)) => if ((0 < t ∧ t < 4) ∧ ci = am_comp t) ∧ 0 ≤ i ∧ i.toNatClampNeg < n then some (pc, ls, st', va_up H.1 a (some (.inl (t, n, .inr (.inr (.inr (.inr (va_up f i.toNatClampNeg (some b)))))))), H.2.1, H.2.2) else none
    | _, _ => none)
  | _ => none
def am_alen (pc : Nat) (ls : am_L) (st : List Value) (H : am_H) : am_R := match st with
  | .ref a :: st' => (match H.1 a with
    | some (.inl (t, n, .inl _)) => if t = 0 ∨ t = 9 then some (pc, ls, .int (Int32.ofNat n) :: st', H) else none
    | _ => none)
  | _ => none
def am_cat (st : List Value) : Nat := (st.map fun v => v.category).sum
/-- Object's constructor, System.arraycopy of ints, Math.min, Math.abs -/
def am_obj (mi : am_I) (pc : Nat) (ls : am_L) (st : List Value) (H : am_H) : am_R := match st with
  | .ref _ :: st' => if 1 ≤ mi.2.2.2.2.2.1 ∧ am_cat st' + 12 ≤ mi.2.2.2.2.2.2 then some (pc + 3, ls, st', H) else none
  | _ => none
def am_copy (mi : am_I) (pc : Nat) (ls : am_L) (st : List Value) (H : am_H) : am_R := match st with
  | .int n :: .int dp :: .ref a :: .int sp :: .ref a0 :: st' => (match H.1 a0, H.1 a with
    | some (.inl (t0, n0, .inl f)), some (.inl (t1, n1, .inl g)) => if (t0 = 0 ∧ t1 = 0) ∧ (0 ≤ sp ∧ 0 ≤ dp ∧ 0 ≤ n) ∧ (sp.toNatClampNeg + n.toNatClampNeg ≤ n0 ∧ dp.toNatClampNeg + n.toNatClampNeg ≤ n1) ∧ 1 ≤ mi.2.2.2.2.2.1 ∧ am_cat st' + 18 ≤ mi.2.2.2.2.2.2 then some (pc + 3, ls, st', va_up H.1 a (some (.inl (0, n1, .inl (va_cpy f g sp.toNatClampNeg dp.toNatClampNeg n.toNatClampNeg)))), H.2.1, H.2.2) else none
    | _, _ => none)
  | _ => none
def am_min (mi : am_I) (pc : Nat) (ls : am_L) (st : List Value) (H : am_H) : am_R := match st with
  | .int y :: .int x :: st' => if 1 ≤ mi.2.2.2.2.2.1 ∧ am_cat st' + 13 ≤ mi.2.2.2.2.2.2 then some (pc + 3, ls, .int (if y < x then y else x) :: st', H) else none
  | _ => none
def am_abs (mi : am_I) (pc : Nat) (ls : am_L) (st : List Value) (H : am_H) : am_R := match st with
  | .int x :: st' => if 1 ≤ mi.2.2.2.2.2.1 ∧ am_cat st' + 13 ≤ mi.2.2.2.2.2.2 then some (pc + 3, ls, .int (if 0 ≤ x then x else 0 - x) :: st', H) else none
  | _ => none
def am_special (mi : am_I) (cp pc : Nat) (ls : am_L) (st : List Value) (H : am_H) : am_R := match (am_spL mi.1).lookup cp with
  | some 1 => am_copy mi pc ls st H
  | some 2 => am_min mi pc ls st H
  | some 3 => am_abs mi pc ls st H
  | _ => none
def am_objI (mi : am_I) (cp pc : Nat) (ls : am_L) (st : List Value) (H : am_H) : am_R := match (am_spL mi.1).lookup cp with
  | some 0 => am_obj mi pc ls st H
  | _ => none
def am_push (pc : Nat) (ls : am_L) (st : List Value) (H : am_H) (v : Value) : am_R := some (pc, ls, v :: st, H)
def am_pushO (pc : Nat) (ls : am_L) (st : List Value) (H : am_H) (v : Option Value) : am_R := match v with
  | some v => some (pc, ls, v :: st, H)
  | none => none
def am_n32 (r : UInt32) : Option Value := if r &&& 0x7fffffff ≤ 0x7f800000 then some (.float r) else none
def am_n64 (r : UInt64) : Option Value := if r &&& 0x7fffffffffffffff ≤ 0x7ff0000000000000 then some (.double r) else none
def am_f2 (f : UInt32 → UInt32 → Option Value) (pc : Nat) (ls : am_L) (st : List Value) (H : am_H) : am_R := match st with
  | .float y :: .float x :: st' => am_pushO pc ls st' H (f x y)
  | _ => none
def am_d2 (f : UInt64 → UInt64 → Option Value) (pc : Nat) (ls : am_L) (st : List Value) (H : am_H) : am_R := match st with
  | .double y :: .double x :: st' => am_pushO pc ls st' H (f x y)
  | _ => none
/-- one instruction that neither calls nor returns -/
def am_step (sA : Nat) (mi : am_I) (i : Instr) (pc : Nat) (ls : am_L) (st : List Value) (H : am_H) : am_R := match i with
  | .iconst n => am_push (pc + 1) ls st H (.int (Int32.ofInt n))
  | .bipush n => am_push (pc + 2) ls st H (.int (Int8.ofInt n).toInt32)
  | .sipush n => am_push (pc + 3) ls st H (.int (Int16.ofInt n).toInt32)
  | .ldc cp => am_pushO (pc + 2) ls st H (((am_conL mi.1).lookup cp).map .int)
  | .ldc2_w cp => am_pushO (pc + 3) ls st H (((am_lngL mi.1).lookup cp).map .long)
  | .fconst k => if k = 0 then am_push (pc + 1) ls st H (.float FP.fconst0) else none
  | .aconst_null => am_push (pc + 1) ls st H .null
  | .iload_n k => am_load am_isI k (pc + 1) ls st H
  | .iload k => am_load am_isI k (pc + 2) ls st H
  | .lload_n k => am_load am_isL k (pc + 1) ls st H
  | .lload k => am_load am_isL k (pc + 2) ls st H
  | .dload k => am_load am_isD k (pc + 2) ls st H
  | .aload_n k => am_load am_isA k (pc + 1) ls st H
  | .aload k => am_load am_isA k (pc + 2) ls st H
  | .istore_n k => am_store am_isI k (pc + 1) ls st H
  | .istore k => am_store am_isI k (pc + 2) ls st H
  | .lstore_n k => am_store am_isL k (pc + 1) ls st H
  | .lstore k => am_store am_isL k (pc + 2) ls st H
  | .dstore k => am_store am_isD k (pc + 2) ls st H
  | .astore_n k => am_store am_isA k (pc + 1) ls st H
  | .astore k => am_store am_isA k (pc + 2) ls st H
  | .iinc k n => am_iinc k n (pc + 3) ls st H
  | .iadd => am_i2 (fun x y => some (x + y)) (pc + 1) ls st H
  | .isub => am_i2 (fun x y => some (x - y)) (pc + 1) ls st H
  | .imul => am_i2 (fun x y => some (x * y)) (pc + 1) ls st H
  | .iand => am_i2 (fun x y => some (x &&& y)) (pc + 1) ls st H
  | .ior => am_i2 (fun x y => some (x ||| y)) (pc + 1) ls st H
  | .ixor => am_i2 (fun x y => some (x ^^^ y)) (pc + 1) ls st H
  | .idiv => am_i2 (fun x y => if y = 0 then none else some (x / y)) (pc + 1) ls st H
  | .irem => am_i2 (fun x y => if y = 0 then none else some (x - x / y * y)) (pc + 1) ls st H
  | .ishl => am_i2 (fun x y => some (x <<< (y &&& 31))) (pc + 1) ls st H
  | .ishr => am_i2 (fun x y => some (x >>> (y &&& 31))) (pc + 1) ls st H
  | .ineg => am_u1 (fun v => match v with | .int x => some (.int (-x)) | _ => none) (pc + 1) ls st H
  | .ladd => am_l2 (fun x y => some (.long (x + y))) (pc + 1) ls st H
  | .lmul => am_l2 (fun x y => some (.long (x * y))) (pc + 1) ls st H
  | .ldiv => am_l2 (fun x y => if y = 0 then none else some (.long (x / y))) (pc + 1) ls st H
  | .lcmp => am_l2 (fun x y => some (.int (lg_cmp x y))) (pc + 1) ls st H
  | .i2l => am_u1 (fun v => match v with | .int x => some (.long x.toInt64) | _ => none) (pc + 1) ls st H
  | .l2i => am_u1 (fun v => match v with | .long x => some (.int x.toInt32) | _ => none) (pc + 1) ls st H
  | .l2f => am_u1 (fun v => match v with | .long x => some (.float (FP.l2f x)) | _ => none) (pc + 1) ls st H
  | .i2f => am_u1 (fun v => match v with | .int x => some (.float (FP.i2f x)) | _ => none) (pc + 1) ls st H
  | .f2d => am_u1 (fun v => match v with | .float x => am_n64 (FP.f2d x) | _ => none) (pc + 1) ls st H
  | .fdiv => am_f2 (fun x y => am_n32 (FP.fdiv x y)) (pc + 1) ls st H
  | .dcmp op => am_d2 (fun x y => some (.int (Op.cmpValue (FP.dcmp x y) op))) (pc + 1) ls st H
  | .fcmp op => am_f2 (fun x y => some (.int (Op.cmpValue (FP.fcmp x y) op))) (pc + 1) ls st H
  | .dup => am_dup (pc + 1) ls st H
  | .dup2 => am_dup2 (pc + 1) ls st H
  | .ifCond k off => am_if1 k off pc ls st H
  | .if_icmp k off => am_if2 k off pc ls st H
  | .ifnonnull off => am_nn off pc ls st H
  | .goto off => am_tgt pc off ls st H
  | .tableswitch d lo hi offs => am_tsw d lo hi offs pc ls st H
  | .lookupswitch d ps => am_lsw d ps pc ls st H
  | .getfield cp => am_getf mi.1 cp (pc + 3) ls st H
  | .putfield cp => am_putf (am_ini mi) mi.1 cp (pc + 3) ls st H
  | .getstatic cp => am_gets sA mi.1 cp (pc + 3) ls st H
  | .new cp => am_new mi.1 cp (pc + 3) ls st H
  | .newarray t => if t = .int then am_newa (pc + 2) ls st H else none
  | .anewarray cp => am_anew mi.1 cp (pc + 3) ls st H
  | .iaload => am_iald (pc + 1) ls st H
  | .iastore => am_iast (pc + 1) ls st H
  | .aaload => am_aald (pc + 1) ls st H
  | .aastore => am_aast (pc + 1) ls st H
  | .arraylength => am_alen (pc + 1) ls st H
  | .invokestatic cp => am_special mi cp pc ls st H
  | .invokespecial cp => am_objI mi cp pc ls st H
  | _ => none
/-- how many bytes an instruction has -/
def am_lenOk (i : Instr) (n : Nat) : Bool := match i with
  | .bipush _ => n == 2
  | .ldc _ => n == 2
  | .iload _ => n == 2
  | .lload _ => n == 2
  | .dload _ => n == 2
  | .aload _ => n == 2
  | .istore _ => n == 2
  | .lstore _ => n == 2
  | .dstore _ => n == 2
  | .astore _ => n == 2
  | .newarray _ => n == 2
  | .sipush _ => n == 3
  | .ldc2_w _ => n == 3
  | .iinc _ _ => n == 3
  | .ifCond _ _ => n == 3
  | .if_icmp _ _ => n == 3
  | .ifnonnull _ => n == 3
  | .goto _ => n == 3
  | .getfield _ => n == 3
  | .putfield _ => n == 3
  | .getstatic _ => n == 3
  | .new _ => n == 3
  | .anewarray _ => n == 3
  | .invokevirtual _ => n == 3
  | .invokestatic _ => n == 3
  | .invokespecial _ => n == 3
  | .tableswitch _ _ _ _ => true
  | .lookupswitch _ _ => true
  | _ => n == 1
/-- a method's end -/
def am_ret (mi : am_I) (i : Instr) (st : List Value) : Option (Option Value) := match i, st with
  | .ireturn, [.int v] => (match mi.2.2.2.2.1 with
    | some .int => some (some (.int v))
    | some .boolean => if v = 0 ∨ v = 1 then some (some (.int v)) else none
    | _ => none)
  | .lreturn, [.long v] => (match mi.2.2.2.2.1 with | some .long => some (some (.long v)) | _ => none)
  | .freturn, [.float v] => (match mi.2.2.2.2.1 with | some .float => some (some (.float v)) | _ => none)
  | .areturn, [.ref v] => (match mi.2.2.2.2.1 with | some (.object _) => some (some (.ref v)) | _ => none)
  | .return_, [] => (match mi.2.2.2.2.1 with | none => some none | _ => none)
  | _, _ => none
/-- a call: the method, its arguments, the stack behind it -/
def am_callS (mi : am_I) (k n : Nat) (mj : am_I) (st : List Value) (H : am_H) : Option (am_I × List Value × List Value) :=
  let As := (st.take n).reverse
  if As.length = n ∧ mj.2.2.2.2.2.1 + 1 ≤ mi.2.2.2.2.2.1 ∧ 8 + (mj.2.2.2.1 + 11) + mj.2.2.2.2.2.2 ≤ mi.2.2.2.2.2.2 then
    (if k = 1 ∨ k = 4 then (if am_cat (st.drop n) ≤ 8 then some (mj, As, st.drop n) else none)
     else match st.drop n with
      | .ref b :: rest => if am_cat rest ≤ 8 then (if k = 0 then (match H.1 b with | some (.inr (ci, _)) => if ci = mj.1 then some (mj, .ref b :: As, rest) else none | _ => none) else some (mj, .ref b :: As, rest)) else none
      | _ => none)
  else none
def am_call (mi : am_I) (i : Instr) (st : List Value) (H : am_H) : Option (am_I × List Value × List Value) := match i with
  | .invokevirtual cp => (match (am_callL mi.1).lookup cp with | some (k, n, mj) => if k = 0 then am_callS mi k n mj st H else none | none => none)
  | .invokestatic cp => (match (am_callL mi.1).lookup cp with | some (k, n, mj) => if k = 1 ∨ k = 4 then am_callS mi k n mj st H else none | none => none)
  | .invokespecial cp => (match (am_callL mi.1).lookup cp with | some (k, n, mj) => if k = 2 ∨ k = 5 then am_callS mi k n mj st H else none | none => none)
  | _ => none
def am_flat (vs : List Value) : am_L := vs.flatMap fun v => if v.category = 2 then [some v, none] else [some v]
def am_entry (vs : List Value) (n : Nat) : am_L := am_flat vs ++ List.replicate (n - (am_flat vs).length) none
/-- a method's run, with fuel -/
def am_exec (sA : Nat) : Nat → am_I → Nat → am_L → List Value → am_H → Option (Option Value × am_H)
  | 0, _, _, _, _, _ => none
  | n + 1, mi, pc, ls, st, H => match decode mi.2.1 pc with
    | .error _ => none
    | .ok (i, n0) => if am_lenOk i n0 = true then (match am_ret mi i st with
      | some r => some (r, H)
      | none => match am_call mi i st H with
        | some (mj, As, rest) => if (am_flat As).length ≤ mj.2.2.2.1 then (match am_exec sA n mj 0 (am_entry As mj.2.2.2.1) [] H with
          | some (r, H') => am_exec sA n mi (pc + 3) ls (r.toList ++ rest) H'
          | none => none) else none
        | none => match am_step sA mi i pc ls st H with
          | some (pc', ls', st', H') => if H.2.1 ≤ H'.2.1 ∧ H.2.2 ≤ H'.2.2 then am_exec sA n mi pc' ls' st' H' else none
          | none => none) else none
end
section
theorem wr1 : ∀ w ∈ wsL_law_r1, w ∈ wsL_law := fun _ h => List.mem_append_left _ (List.mem_append_left _ (List.mem_append_left _ (List.mem_append_left _ (List.mem_append_left _ (List.mem_append_left _ (List.mem_append_left _ (List.mem_append_left _ (List.mem_append_left _ (List.mem_append_left _ (List.mem_append_left _ (List.mem_append_left _ (List.mem_append_left _ (List.mem_append_left _ (h))))))))))))))
theorem wr2 : ∀ w ∈ wsL_law_r2, w ∈ wsL_law := fun _ h => List.mem_append_left _ (List.mem_append_left _ (List.mem_append_left _ (List.mem_append_left _ (List.mem_append_left _ (List.mem_append_left _ (List.mem_append_left _ (List.mem_append_left _ (List.mem_append_left _ (List.mem_append_left _ (List.mem_append_left _ (List.mem_append_left _ (List.mem_append_left _ (List.mem_append_right _ (List.mem_append_left _ (h)))))))))))))))
theorem wr3 : ∀ w ∈ wsL_law_r3, w ∈ wsL_law := fun _ h => List.mem_append_left _ (List.mem_append_left _ (List.mem_append_left _ (List.mem_append_left _ (List.mem_append_left _ (List.mem_append_left _ (List.mem_append_left _ (List.mem_append_left _ (List.mem_append_left _ (List.mem_append_left _ (List.mem_append_left _ (List.mem_append_left _ (List.mem_append_left _ (List.mem_append_right _ (List.mem_append_right _ (List.mem_append_left _ (h))))))))))))))))
theorem wr4 : ∀ w ∈ wsL_law_r4, w ∈ wsL_law := fun _ h => List.mem_append_left _ (List.mem_append_left _ (List.mem_append_left _ (List.mem_append_left _ (List.mem_append_left _ (List.mem_append_left _ (List.mem_append_left _ (List.mem_append_left _ (List.mem_append_left _ (List.mem_append_left _ (List.mem_append_left _ (List.mem_append_left _ (List.mem_append_left _ (List.mem_append_right _ (List.mem_append_right _ (List.mem_append_right _ (List.mem_append_left _ (h)))))))))))))))))
theorem wr5 : ∀ w ∈ wsL_law_r5, w ∈ wsL_law := fun _ h => List.mem_append_left _ (List.mem_append_left _ (List.mem_append_left _ (List.mem_append_left _ (List.mem_append_left _ (List.mem_append_left _ (List.mem_append_left _ (List.mem_append_left _ (List.mem_append_left _ (List.mem_append_left _ (List.mem_append_left _ (List.mem_append_left _ (List.mem_append_left _ (List.mem_append_right _ (List.mem_append_right _ (List.mem_append_right _ (List.mem_append_right _ (List.mem_append_left _ (h))))))))))))))))))
theorem wr6 : ∀ w ∈ wsL_law_r6, w ∈ wsL_law := fun _ h => List.mem_append_left _ (List.mem_append_left _ (List.mem_append_left _ (List.mem_append_left _ (List.mem_append_left _ (List.mem_append_left _ (List.mem_append_left _ (List.mem_append_left _ (List.mem_append_left _ (List.mem_append_left _ (List.mem_append_left _ (List.mem_append_left _ (List.mem_append_left _ (List.mem_append_right _ (List.mem_append_right _ (List.mem_append_right _ (List.mem_append_right _ (List.mem_append_right _ (List.mem_append_left _ (h)))))))))))))))))))
theorem wr7 : ∀ w ∈ wsL_law_r7, w ∈ wsL_law := fun _ h => List.mem_append_left _ (List.mem_append_left _ (List.mem_append_left _ (List.mem_append_left _ (List.mem_append_left _ (List.mem_append_left _ (List.mem_append_left _ (List.mem_append_left _ (List.mem_append_left _ (List.mem_append_left _ (List.mem_append_left _ (List.mem_append_left _ (List.mem_append_left _ (List.mem_append_right _ (List.mem_append_right _ (List.mem_append_right _ (List.mem_append_right _ (List.mem_append_right _ (List.mem_append_right _ (List.mem_append_left _ (h))))))))))))))))))))
theorem wr8 : ∀ w ∈ wsL_law_r8, w ∈ wsL_law := fun _ h => List.mem_append_left _ (List.mem_append_left _ (List.mem_append_left _ (List.mem_append_left _ (List.mem_append_left _ (List.mem_append_left _ (List.mem_append_left _ (List.mem_append_left _ (List.mem_append_left _ (List.mem_append_left _ (List.mem_append_left _ (List.mem_append_left _ (List.mem_append_left _ (List.mem_append_right _ (List.mem_append_right _ (List.mem_append_right _ (List.mem_append_right _ (List.mem_append_right _ (List.mem_append_right _ (List.mem_append_right _ (List.mem_append_left _ (h)))))))))))))))))))))
theorem wr9 : ∀ w ∈ wsL_law_r9, w ∈ wsL_law := fun _ h => List.mem_append_left _ (List.mem_append_left _ (List.mem_append_left _ (List.mem_append_left _ (List.mem_append_left _ (List.mem_append_left _ (List.mem_append_left _ (List.mem_append_left _ (List.mem_append_left _ (List.mem_append_left _ (List.mem_append_left _ (List.mem_append_left _ (List.mem_append_left _ (List.mem_append_right _ (List.mem_append_right _ (List.mem_append_right _ (List.mem_append_right _ (List.mem_append_right _ (List.mem_append_right _ (List.mem_append_right _ (List.mem_append_right _ (List.mem_append_left _ (h))))))))))))))))))))))
theorem wr10 : ∀ w ∈ wsL_law_r10, w ∈ wsL_law := fun _ h => List.mem_append_left _ (List.mem_append_left _ (List.mem_append_left _ (List.mem_append_left _ (List.mem_append_left _ (List.mem_append_left _ (List.mem_append_left _ (List.mem_append_left _ (List.mem_append_left _ (List.mem_append_left _ (List.mem_append_left _ (List.mem_append_left _ (List.mem_append_left _ (List.mem_append_right _ (List.mem_append_right _ (List.mem_append_right _ (List.mem_append_right _ (List.mem_append_right _ (List.mem_append_right _ (List.mem_append_right _ (List.mem_append_right _ (List.mem_append_right _ (List.mem_append_left _ (h)))))))))))))))))))))))
theorem wr11 : ∀ w ∈ wsL_law_r11, w ∈ wsL_law := fun _ h => List.mem_append_left _ (List.mem_append_left _ (List.mem_append_left _ (List.mem_append_left _ (List.mem_append_left _ (List.mem_append_left _ (List.mem_append_left _ (List.mem_append_left _ (List.mem_append_left _ (List.mem_append_left _ (List.mem_append_left _ (List.mem_append_left _ (List.mem_append_left _ (List.mem_append_right _ (List.mem_append_right _ (List.mem_append_right _ (List.mem_append_right _ (List.mem_append_right _ (List.mem_append_right _ (List.mem_append_right _ (List.mem_append_right _ (List.mem_append_right _ (List.mem_append_right _ (List.mem_append_left _ (h))))))))))))))))))))))))
theorem wr12 : ∀ w ∈ wsL_law_r12, w ∈ wsL_law := fun _ h => List.mem_append_left _ (List.mem_append_left _ (List.mem_append_left _ (List.mem_append_left _ (List.mem_append_left _ (List.mem_append_left _ (List.mem_append_left _ (List.mem_append_left _ (List.mem_append_left _ (List.mem_append_left _ (List.mem_append_left _ (List.mem_append_left _ (List.mem_append_left _ (List.mem_append_right _ (List.mem_append_right _ (List.mem_append_right _ (List.mem_append_right _ (List.mem_append_right _ (List.mem_append_right _ (List.mem_append_right _ (List.mem_append_right _ (List.mem_append_right _ (List.mem_append_right _ (List.mem_append_right _ (List.mem_append_left _ (h)))))))))))))))))))))))))
theorem wr13 : ∀ w ∈ wsL_law_r13, w ∈ wsL_law := fun _ h => List.mem_append_left _ (List.mem_append_left _ (List.mem_append_left _ (List.mem_append_left _ (List.mem_append_left _ (List.mem_append_left _ (List.mem_append_left _ (List.mem_append_left _ (List.mem_append_left _ (List.mem_append_left _ (List.mem_append_left _ (List.mem_append_left _ (List.mem_append_left _ (List.mem_append_right _ (List.mem_append_right _ (List.mem_append_right _ (List.mem_append_right _ (List.mem_append_right _ (List.mem_append_right _ (List.mem_append_right _ (List.mem_append_right _ (List.mem_append_right _ (List.mem_append_right _ (List.mem_append_right _ (List.mem_append_right _ (List.mem_append_left _ (h))))))))))))))))))))))))))
theorem wr14 : ∀ w ∈ wsL_law_r14, w ∈ wsL_law := fun _ h => List.mem_append_left _ (List.mem_append_left _ (List.mem_append_left _ (List.mem_append_left _ (List.mem_append_left _ (List.mem_append_left _ (List.mem_append_left _ (List.mem_append_left _ (List.mem_append_left _ (List.mem_append_left _ (List.mem_append_left _ (List.mem_append_left _ (List.mem_append_left _ (List.mem_append_right _ (List.mem_append_right _ (List.mem_append_right _ (List.mem_append_right _ (List.mem_append_right _ (List.mem_append_right _ (List.mem_append_right _ (List.mem_append_right _ (List.mem_append_right _ (List.mem_append_right _ (List.mem_append_right _ (List.mem_append_right _ (List.mem_append_right _ (List.mem_append_left _ (h)))))))))))))))))))))))))))
theorem wr15 : ∀ w ∈ wsL_law_r15, w ∈ wsL_law := fun _ h => List.mem_append_left _ (List.mem_append_left _ (List.mem_append_left _ (List.mem_append_left _ (List.mem_append_left _ (List.mem_append_left _ (List.mem_append_left _ (List.mem_append_left _ (List.mem_append_left _ (List.mem_append_left _ (List.mem_append_left _ (List.mem_append_left _ (List.mem_append_left _ (List.mem_append_right _ (List.mem_append_right _ (List.mem_append_right _ (List.mem_append_right _ (List.mem_append_right _ (List.mem_append_right _ (List.mem_append_right _ (List.mem_append_right _ (List.mem_append_right _ (List.mem_append_right _ (List.mem_append_right _ (List.mem_append_right _ (List.mem_append_right _ (List.mem_append_right _ (List.mem_append_left _ (h))))))))))))))))))))))))))))
theorem wr16 : ∀ w ∈ wsL_law_r16, w ∈ wsL_law := fun _ h => List.mem_append_left _ (List.mem_append_left _ (List.mem_append_left _ (List.mem_append_left _ (List.mem_append_left _ (List.mem_append_left _ (List.mem_append_left _ (List.mem_append_left _ (List.mem_append_left _ (List.mem_append_left _ (List.mem_append_left _ (List.mem_append_left _ (List.mem_append_left _ (List.mem_append_right _ (List.mem_append_right _ (List.mem_append_right _ (List.mem_append_right _ (List.mem_append_right _ (List.mem_append_right _ (List.mem_append_right _ (List.mem_append_right _ (List.mem_append_right _ (List.mem_append_right _ (List.mem_append_right _ (List.mem_append_right _ (List.mem_append_right _ (List.mem_append_right _ (List.mem_append_right _ (List.mem_append_left _ (h)))))))))))))))))))))))))))))
theorem wr17 : ∀ w ∈ wsL_law_r17, w ∈ wsL_law := fun _ h => List.mem_append_left _ (List.mem_append_left _ (List.mem_append_left _ (List.mem_append_left _ (List.mem_append_left _ (List.mem_append_left _ (List.mem_append_left _ (List.mem_append_left _ (List.mem_append_left _ (List.mem_append_left _ (List.mem_append_left _ (List.mem_append_left _ (List.mem_append_left _ (List.mem_append_right _ (List.mem_append_right _ (List.mem_append_right _ (List.mem_append_right _ (List.mem_append_right _ (List.mem_append_right _ (List.mem_append_right _ (List.mem_append_right _ (List.mem_append_right _ (List.mem_append_right _ (List.mem_append_right _ (List.mem_append_right _ (List.mem_append_right _ (List.mem_append_right _ (List.mem_append_right _ (List.mem_append_right _ (List.mem_append_left _ (h))))))))))))))))))))))))))))))
theorem wr18 : ∀ w ∈ wsL_law_r18, w ∈ wsL_law := fun _ h => List.mem_append_left _ (List.mem_append_left _ (List.mem_append_left _ (List.mem_append_left _ (List.mem_append_left _ (List.mem_append_left _ (List.mem_append_left _ (List.mem_append_left _ (List.mem_append_left _ (List.mem_append_left _ (List.mem_append_left _ (List.mem_append_left _ (List.mem_append_left _ (List.mem_append_right _ (List.mem_append_right _ (List.mem_append_right _ (List.mem_append_right _ (List.mem_append_right _ (List.mem_append_right _ (List.mem_append_right _ (List.mem_append_right _ (List.mem_append_right _ (List.mem_append_right _ (List.mem_append_right _ (List.mem_append_right _ (List.mem_append_right _ (List.mem_append_right _ (List.mem_append_right _ (List.mem_append_right _ (List.mem_append_right _ (List.mem_append_left _ (h)))))))))))))))))))))))))))))))
theorem wr19 : ∀ w ∈ wsL_law_r19, w ∈ wsL_law := fun _ h => List.mem_append_left _ (List.mem_append_left _ (List.mem_append_left _ (List.mem_append_left _ (List.mem_append_left _ (List.mem_append_left _ (List.mem_append_left _ (List.mem_append_left _ (List.mem_append_left _ (List.mem_append_left _ (List.mem_append_left _ (List.mem_append_left _ (List.mem_append_left _ (List.mem_append_right _ (List.mem_append_right _ (List.mem_append_right _ (List.mem_append_right _ (List.mem_append_right _ (List.mem_append_right _ (List.mem_append_right _ (List.mem_append_right _ (List.mem_append_right _ (List.mem_append_right _ (List.mem_append_right _ (List.mem_append_right _ (List.mem_append_right _ (List.mem_append_right _ (List.mem_append_right _ (List.mem_append_right _ (List.mem_append_right _ (List.mem_append_right _ (List.mem_append_left _ (h))))))))))))))))))))))))))))))))
theorem wr20 : ∀ w ∈ wsL_law_r20, w ∈ wsL_law := fun _ h => List.mem_append_left _ (List.mem_append_left _ (List.mem_append_left _ (List.mem_append_left _ (List.mem_append_left _ (List.mem_append_left _ (List.mem_append_left _ (List.mem_append_left _ (List.mem_append_left _ (List.mem_append_left _ (List.mem_append_left _ (List.mem_append_left _ (List.mem_append_left _ (List.mem_append_right _ (List.mem_append_right _ (List.mem_append_right _ (List.mem_append_right _ (List.mem_append_right _ (List.mem_append_right _ (List.mem_append_right _ (List.mem_append_right _ (List.mem_append_right _ (List.mem_append_right _ (List.mem_append_right _ (List.mem_append_right _ (List.mem_append_right _ (List.mem_append_right _ (List.mem_append_right _ (List.mem_append_right _ (List.mem_append_right _ (List.mem_append_right _ (List.mem_append_right _ (List.mem_append_left _ (h)))))))))))))))))))))))))))))))))
theorem wr21 : ∀ w ∈ wsL_law_r21, w ∈ wsL_law := fun _ h => List.mem_append_left _ (List.mem_append_left _ (List.mem_append_left _ (List.mem_append_left _ (List.mem_append_left _ (List.mem_append_left _ (List.mem_append_left _ (List.mem_append_left _ (List.mem_append_left _ (List.mem_append_left _ (List.mem_append_left _ (List.mem_append_left _ (List.mem_append_left _ (List.mem_append_right _ (List.mem_append_right _ (List.mem_append_right _ (List.mem_append_right _ (List.mem_append_right _ (List.mem_append_right _ (List.mem_append_right _ (List.mem_append_right _ (List.mem_append_right _ (List.mem_append_right _ (List.mem_append_right _ (List.mem_append_right _ (List.mem_append_right _ (List.mem_append_right _ (List.mem_append_right _ (List.mem_append_right _ (List.mem_append_right _ (List.mem_append_right _ (List.mem_append_right _ (List.mem_append_right _ (List.mem_append_left _ (h))))))))))))))))))))))))))))))))))
theorem wr22 : ∀ w ∈ wsL_law_r22, w ∈ wsL_law := fun _ h => List.mem_append_left _ (List.mem_append_left _ (List.mem_append_left _ (List.mem_append_left _ (List.mem_append_left _ (List.mem_append_left _ (List.mem_append_left _ (List.mem_append_left _ (List.mem_append_left _ (List.mem_append_left _ (List.mem_append_left _ (List.mem_append_left _ (List.mem_append_left _ (List.mem_append_right _ (List.mem_append_right _ (List.mem_append_right _ (List.mem_append_right _ (List.mem_append_right _ (List.mem_append_right _ (List.mem_append_right _ (List.mem_append_right _ (List.mem_append_right _ (List.mem_append_right _ (List.mem_append_right _ (List.mem_append_right _ (List.mem_append_right _ (List.mem_append_right _ (List.mem_append_right _ (List.mem_append_right _ (List.mem_append_right _ (List.mem_append_right _ (List.mem_append_right _ (List.mem_append_right _ (List.mem_append_right _ (List.mem_append_left _ (h)))))))))))))))))))))))))))))))))))
theorem wr23 : ∀ w ∈ wsL_law_r23, w ∈ wsL_law := fun _ h => List.mem_append_left _ (List.mem_append_left _ (List.mem_append_left _ (List.mem_append_left _ (List.mem_append_left _ (List.mem_append_left _ (List.mem_append_left _ (List.mem_append_left _ (List.mem_append_left _ (List.mem_append_left _ (List.mem_append_left _ (List.mem_append_left _ (List.mem_append_left _ (List.mem_append_right _ (List.mem_append_right _ (List.mem_append_right _ (List.mem_append_right _ (List.mem_append_right _ (List.mem_append_right _ (List.mem_append_right _ (List.mem_append_right _ (List.mem_append_right _ (List.mem_append_right _ (List.mem_append_right _ (List.mem_append_right _ (List.mem_append_right _ (List.mem_append_right _ (List.mem_append_right _ (List.mem_append_right _ (List.mem_append_right _ (List.mem_append_right _ (List.mem_append_right _ (List.mem_append_right _ (List.mem_append_right _ (List.mem_append_right _ (List.mem_append_left _ (h))))))))))))))))))))))))))))))))))))
theorem wr24 : ∀ w ∈ wsL_law_r24, w ∈ wsL_law := fun _ h => List.mem_append_left _ (List.mem_append_left _ (List.mem_append_left _ (List.mem_append_left _ (List.mem_append_left _ (List.mem_append_left _ (List.mem_append_left _ (List.mem_append_left _ (List.mem_append_left _ (List.mem_append_left _ (List.mem_append_left _ (List.mem_append_left _ (List.mem_append_left _ (List.mem_append_right _ (List.mem_append_right _ (List.mem_append_right _ (List.mem_append_right _ (List.mem_append_right _ (List.mem_append_right _ (List.mem_append_right _ (List.mem_append_right _ (List.mem_append_right _ (List.mem_append_right _ (List.mem_append_right _ (List.mem_append_right _ (List.mem_append_right _ (List.mem_append_right _ (List.mem_append_right _ (List.mem_append_right _ (List.mem_append_right _ (List.mem_append_right _ (List.mem_append_right _ (List.mem_append_right _ (List.mem_append_right _ (List.mem_append_right _ (List.mem_append_right _ (List.mem_append_left _ (h)))))))))))))))))))))))))))))))))))))
theorem wr25 : ∀ w ∈ wsL_law_r25, w ∈ wsL_law := fun _ h => List.mem_append_left _ (List.mem_append_left _ (List.mem_append_left _ (List.mem_append_left _ (List.mem_append_left _ (List.mem_append_left _ (List.mem_append_left _ (List.mem_append_left _ (List.mem_append_left _ (List.mem_append_left _ (List.mem_append_left _ (List.mem_append_left _ (List.mem_append_left _ (List.mem_append_right _ (List.mem_append_right _ (List.mem_append_right _ (List.mem_append_right _ (List.mem_append_right _ (List.mem_append_right _ (List.mem_append_right _ (List.mem_append_right _ (List.mem_append_right _ (List.mem_append_right _ (List.mem_append_right _ (List.mem_append_right _ (List.mem_append_right _ (List.mem_append_right _ (List.mem_append_right _ (List.mem_append_right _ (List.mem_append_right _ (List.mem_append_right _ (List.mem_append_right _ (List.mem_append_right _ (List.mem_append_right _ (List.mem_append_right _ (List.mem_append_right _ (List.mem_append_right _ (List.mem_append_left _ (h))))))))))))))))))))))))))))))))))))))
theorem wr26 : ∀ w ∈ wsL_law_r26, w ∈ wsL_law := fun _ h => List.mem_append_left _ (List.mem_append_left _ (List.mem_append_left _ (List.mem_append_left _ (List.mem_append_left _ (List.mem_append_left _ (List.mem_append_left _ (List.mem_append_left _ (List.mem_append_left _ (List.mem_append_left _ (List.mem_append_left _ (List.mem_append_left _ (List.mem_append_left _ (List.mem_append_right _ (List.mem_append_right _ (List.mem_append_right _ (List.mem_append_right _ (List.mem_append_right _ (List.mem_append_right _ (List.mem_append_right _ (List.mem_append_right _ (List.mem_append_right _ (List.mem_append_right _ (List.mem_append_right _ (List.mem_append_right _ (List.mem_append_right _ (List.mem_append_right _ (List.mem_append_right _ (List.mem_append_right _ (List.mem_append_right _ (List.mem_append_right _ (List.mem_append_right _ (List.mem_append_right _ (List.mem_append_right _ (List.mem_append_right _ (List.mem_append_right _ (List.mem_append_right _ (List.mem_append_right _ (List.mem_append_left _ (h)))))))))))))))))))))))))))))))))))))))
theorem wr27 : ∀ w ∈ wsL_law_r27, w ∈ wsL_law := fun _ h => List.mem_append_left _ (List.mem_append_left _ (List.mem_append_left _ (List.mem_append_left _ (List.mem_append_left _ (List.mem_append_left _ (List.mem_append_left _ (List.mem_append_left _ (List.mem_append_left _ (List.mem_append_left _ (List.mem_append_left _ (List.mem_append_left _ (List.mem_append_left _ (List.mem_append_right _ (List.mem_append_right _ (List.mem_append_right _ (List.mem_append_right _ (List.mem_append_right _ (List.mem_append_right _ (List.mem_append_right _ (List.mem_append_right _ (List.mem_append_right _ (List.mem_append_right _ (List.mem_append_right _ (List.mem_append_right _ (List.mem_append_right _ (List.mem_append_right _ (List.mem_append_right _ (List.mem_append_right _ (List.mem_append_right _ (List.mem_append_right _ (List.mem_append_right _ (List.mem_append_right _ (List.mem_append_right _ (List.mem_append_right _ (List.mem_append_right _ (List.mem_append_right _ (List.mem_append_right _ (List.mem_append_right _ (List.mem_append_left _ (h))))))))))))))))))))))))))))))))))))))))
theorem wr28 : ∀ w ∈ wsL_law_r28, w ∈ wsL_law := fun _ h => List.mem_append_left _ (List.mem_append_left _ (List.mem_append_left _ (List.mem_append_left _ (List.mem_append_left _ (List.mem_append_left _ (List.mem_append_left _ (List.mem_append_left _ (List.mem_append_left _ (List.mem_append_left _ (List.mem_append_left _ (List.mem_append_left _ (List.mem_append_left _ (List.mem_append_right _ (List.mem_append_right _ (List.mem_append_right _ (List.mem_append_right _ (List.mem_append_right _ (List.mem_append_right _ (List.mem_append_right _ (List.mem_append_right _ (List.mem_append_right _ (List.mem_append_right _ (List.mem_append_right _ (List.mem_append_right _ (List.mem_append_right _ (List.mem_append_right _ (List.mem_append_right _ (List.mem_append_right _ (List.mem_append_right _ (List.mem_append_right _ (List.mem_append_right _ (List.mem_append_right _ (List.mem_append_right _ (List.mem_append_right _ (List.mem_append_right _ (List.mem_append_right _ (List.mem_append_right _ (List.mem_append_right _ (List.mem_append_right _ (List.mem_append_left _ (h)))))))))))))))))))))))))))))))))))))))))
theorem wr29 : ∀ w ∈ wsL_law_r29, w ∈ wsL_law := fun _ h => List.mem_append_left _ (List.mem_append_left _ (List.mem_append_left _ (List.mem_append_left _ (List.mem_append_left _ (List.mem_append_left _ (List.mem_append_left _ (List.mem_append_left _ (List.mem_append_left _ (List.mem_append_left _ (List.mem_append_left _ (List.mem_append_left _ (List.mem_append_left _ (List.mem_append_right _ (List.mem_append_right _ (List.mem_append_right _ (List.mem_append_right _ (List.mem_append_right _ (List.mem_append_right _ (List.mem_append_right _ (List.mem_append_right _ (List.mem_append_right _ (List.mem_append_right _ (List.mem_append_right _ (List.mem_append_right _ (List.mem_append_right _ (List.mem_append_right _ (List.mem_append_right _ (List.mem_append_right _ (List.mem_append_right _ (List.mem_append_right _ (List.mem_append_right _ (List.mem_append_right _ (List.mem_append_right _ (List.mem_append_right _ (List.mem_append_right _ (List.mem_append_right _ (List.mem_append_right _ (List.mem_append_right _ (List.mem_append_right _ (List.mem_append_right _ (List.mem_append_left _ (h))))))))))))))))))))))))))))))))))))))))))
theorem wr30 : ∀ w ∈ wsL_law_r30, w ∈ wsL_law := fun _ h => List.mem_append_left _ (List.mem_append_left _ (List.mem_append_left _ (List.mem_append_left _ (List.mem_append_left _ (List.mem_append_left _ (List.mem_append_left _ (List.mem_append_left _ (List.mem_append_left _ (List.mem_append_left _ (List.mem_append_left _ (List.mem_append_left _ (List.mem_append_left _ (List.mem_append_right _ (List.mem_append_right _ (List.mem_append_right _ (List.mem_append_right _ (List.mem_append_right _ (List.mem_append_right _ (List.mem_append_right _ (List.mem_append_right _ (List.mem_append_right _ (List.mem_append_right _ (List.mem_append_right _ (List.mem_append_right _ (List.mem_append_right _ (List.mem_append_right _ (List.mem_append_right _ (List.mem_append_right _ (List.mem_append_right _ (List.mem_append_right _ (List.mem_append_right _ (List.mem_append_right _ (List.mem_append_right _ (List.mem_append_right _ (List.mem_append_right _ (List.mem_append_right _ (List.mem_append_right _ (List.mem_append_right _ (List.mem_append_right _ (List.mem_append_right _ (List.mem_append_right _ (List.mem_append_left _ (h)))))))))))))))))))))))))))))))))))))))))))
theorem wr31 : ∀ w ∈ wsL_law_r31, w ∈ wsL_law := fun _ h => List.mem_append_left _ (List.mem_append_left _ (List.mem_append_left _ (List.mem_append_left _ (List.mem_append_left _ (List.mem_append_left _ (List.mem_append_left _ (List.mem_append_left _ (List.mem_append_left _ (List.mem_append_left _ (List.mem_append_left _ (List.mem_append_left _ (List.mem_append_left _ (List.mem_append_right _ (List.mem_append_right _ (List.mem_append_right _ (List.mem_append_right _ (List.mem_append_right _ (List.mem_append_right _ (List.mem_append_right _ (List.mem_append_right _ (List.mem_append_right _ (List.mem_append_right _ (List.mem_append_right _ (List.mem_append_right _ (List.mem_append_right _ (List.mem_append_right _ (List.mem_append_right _ (List.mem_append_right _ (List.mem_append_right _ (List.mem_append_right _ (List.mem_append_right _ (List.mem_append_right _ (List.mem_append_right _ (List.mem_append_right _ (List.mem_append_right _ (List.mem_append_right _ (List.mem_append_right _ (List.mem_append_right _ (List.mem_append_right _ (List.mem_append_right _ (List.mem_append_right _ (List.mem_append_right _ (List.mem_append_left _ (h))))))))))))))))))))))))))))))))))))))))))))
theorem wr32 : ∀ w ∈ wsL_law_r32, w ∈ wsL_law := fun _ h => List.mem_append_left _ (List.mem_append_left _ (List.mem_append_left _ (List.mem_append_left _ (List.mem_append_left _ (List.mem_append_left _ (List.mem_append_left _ (List.mem_append_left _ (List.mem_append_left _ (List.mem_append_left _ (List.mem_append_left _ (List.mem_append_left _ (List.mem_append_left _ (List.mem_append_right _ (List.mem_append_right _ (List.mem_append_right _ (List.mem_append_right _ (List.mem_append_right _ (List.mem_append_right _ (List.mem_append_right _ (List.mem_append_right _ (List.mem_append_right _ (List.mem_append_right _ (List.mem_append_right _ (List.mem_append_right _ (List.mem_append_right _ (List.mem_append_right _ (List.mem_append_right _ (List.mem_append_right _ (List.mem_append_right _ (List.mem_append_right _ (List.mem_append_right _ (List.mem_append_right _ (List.mem_append_right _ (List.mem_append_right _ (List.mem_append_right _ (List.mem_append_right _ (List.mem_append_right _ (List.mem_append_right _ (List.mem_append_right _ (List.mem_append_right _ (List.mem_append_right _ (List.mem_append_right _ (List.mem_append_right _ (List.mem_append_left _ (h)))))))))))))))))))))))))))))))))))))))))))))
theorem wr33 : ∀ w ∈ wsL_law_r33, w ∈ wsL_law := fun _ h => List.mem_append_left _ (List.mem_append_left _ (List.mem_append_left _ (List.mem_append_left _ (List.mem_append_left _ (List.mem_append_left _ (List.mem_append_left _ (List.mem_append_left _ (List.mem_append_left _ (List.mem_append_left _ (List.mem_append_left _ (List.mem_append_left _ (List.mem_append_left _ (List.mem_append_right _ (List.mem_append_right _ (List.mem_append_right _ (List.mem_append_right _ (List.mem_append_right _ (List.mem_append_right _ (List.mem_append_right _ (List.mem_append_right _ (List.mem_append_right _ (List.mem_append_right _ (List.mem_append_right _ (List.mem_append_right _ (List.mem_append_right _ (List.mem_append_right _ (List.mem_append_right _ (List.mem_append_right _ (List.mem_append_right _ (List.mem_append_right _ (List.mem_append_right _ (List.mem_append_right _ (List.mem_append_right _ (List.mem_append_right _ (List.mem_append_right _ (List.mem_append_right _ (List.mem_append_right _ (List.mem_append_right _ (List.mem_append_right _ (List.mem_append_right _ (List.mem_append_right _ (List.mem_append_right _ (List.mem_append_right _ (List.mem_append_right _ (h)))))))))))))))))))))))))))))))))))))))))))))
theorem am_lk {α : Type} : ∀ (l : List (Nat × α)) (k : Nat) (b : α), l.lookup k = some b → (k, b) ∈ l
  | [], _, _, h => by simp at h
  | (a, x) :: l, k, b, h => by
    rw [List.lookup_cons] at h
    split at h
    · rename_i q
      have e : k = a := by simpa using q
      cases h
      subst e
      exact List.mem_cons_self
    · exact List.mem_cons_of_mem _ (am_lk l k b h)
def am_nests : List (String × Nat × MethodName × String) := [("CardTabulator", 11, yX8_init, "CardTabulator"), ("CardTabulator$State", 11, yX3_init, "CardTabulator"), ("CardTabulator$State", 27, yX5_init, "CardTabulator"), ("CardTabulator", 18, yX2_init, "CardTabulator"), ("CardTabulator", 29, yX9_init, "CardTabulator"), ("CardTabulator", 36, yX7_init, "CardTabulator"), ("CardTabulator", 43, yX4_init, "CardTabulator"), ("CardTabulator$Printer", 11, yX10_init, "CardTabulator"), ("CardTabulator$SecondWay", 17, yX10_init, "CardTabulator"), ("CardTabulator", 64, yX10_init, "CardTabulator"), ("CardTabulator$Report", 43, yX11_isWithin, "CardTabulator"), ("CardTabulator$Layout", 18, yX11_isField, "CardTabulator"), ("CardTabulator$Card", 26, yX11_isColumn, "CardTabulator"), ("CardTabulator$History", 38, yX8_init, "CardTabulator"), ("CardTabulator$State", 40, yX11_isSetting, "CardTabulator"), ("CardTabulator$Sorter", 65, yX11_isWithin, "CardTabulator"), ("CardTabulator$Text", 67, yX11_isWithin, "CardTabulator")]
def am_FP (c : Nat) (e : Nat × Nat × Nat) : Prop := ∃ r : vw_C, vwCl[e.2.1]? = some r ∧ e.2.2 < r.2.2 ∧ Cond.fieldLink (am_cn c) e.1 (r.2.1 e.2.2).1 (r.2.1 e.2.2).2.1 (r.2.1 e.2.2).2.2.1 ∈ wsL_law
def am_NP (c : Nat) (e : Nat × Nat) : Prop := ∃ r : vw_C, vwCl[e.2]? = some r ∧ Cond.classLink (am_cn c) e.1 r.1 ∈ wsL_law ∧ Cond.instantiable r.1 r.2.2 ∈ wsL_law ∧ Cond.initialized r.1 ∈ wsL_law
def am_AP (c : Nat) (e : Nat × Nat) : Prop := (0 < e.2 ∧ e.2 < 4) ∧ Cond.classLink (am_cn c) e.1 (am_cn (am_comp e.2)) ∈ wsL_law
def am_SP (c : Nat) (e : Nat × Nat) : Prop := (e.2 = 0 → Cond.methodLink (am_cn c) e.1 objectInit ∈ wsL_law) ∧ (e.2 = 1 → Cond.methodLink (am_cn c) e.1 arraycopyName ∈ wsL_law) ∧ (e.2 = 2 → Cond.methodLink (am_cn c) e.1 Lib.Math.min.name ∈ wsL_law) ∧ (e.2 = 3 → Cond.methodLink (am_cn c) e.1 Lib.Math.abs.name ∈ wsL_law)
def am_MO (mj : am_I) : Prop := Cond.code mj.2.2.1 mj.2.1 mj.2.2.2.1 mj.2.2.2.2.1 ∈ wsL_law ∧ plainFor mj.2.2.1 = true ∧ (mj.2.2.1.cls ≠ "java/lang/invoke/MethodHandle" ∧ mj.2.2.1.cls ≠ "java/lang/invoke/VarHandle") ∧ Cond.initialized mj.2.2.1.cls ∈ wsL_law ∧ am_cn mj.1 = mj.2.2.1.cls
def am_CP (c : Nat) (e : Nat × Nat × Nat × am_I) : Prop := am_MO e.2.2.2 ∧ (e.2.1 ≤ 2 → Cond.methodLink (am_cn c) e.1 e.2.2.2.2.2.1 ∈ wsL_law) ∧ (4 ≤ e.2.1 → (am_cn c, e.1, e.2.2.2.2.2.1, "CardTabulator") ∈ am_nests) ∧ (e.2.1 ≠ 1 ∧ e.2.1 ≠ 4 → Cond.instanceMethod e.2.2.2.2.2.1 ∈ wsL_law) ∧ (e.2.1 = 0 → Cond.selects e.2.2.2.2.2.1.cls e.2.2.2.2.2.1 e.2.2.2.2.2.1 ∈ wsL_law) ∧ (e.2.1 = 1 ∨ e.2.1 = 4 → Cond.static e.2.2.2.2.2.1 ∈ wsL_law) ∧ (e.2.1 = 2 ∨ e.2.1 = 5 → e.2.2.2.2.2.1.name = "<init>" ∧ e.2.2.2.2.2.2.2.1 = none) ∧ (parseMethodDescriptor e.2.2.2.2.2.1.desc).map (fun d => d.parameters.length) = some e.2.2.1
set_option maxRecDepth 100000 in
theorem am_fldP0 : ∀ e ∈ (am_fldL 0), am_FP 0 e := List.forall_mem_cons.mpr ⟨⟨_, rfl, by decide, wr4 _ (List.mem_of_getElem? (i := 5) rfl)⟩, List.forall_mem_cons.mpr ⟨⟨_, rfl, by decide, wr4 _ (List.mem_of_getElem? (i := 11) rfl)⟩, List.forall_mem_cons.mpr ⟨⟨_, rfl, by decide, wr4 _ (List.mem_of_getElem? (i := 12) rfl)⟩, fun _ h => absurd h List.not_mem_nil⟩⟩⟩
set_option maxRecDepth 100000 in
theorem am_fldP1 : ∀ e ∈ (am_fldL 1), am_FP 1 e := List.forall_mem_cons.mpr ⟨⟨_, rfl, by decide, wr3 _ (List.mem_of_getElem? (i := 23) rfl)⟩, List.forall_mem_cons.mpr ⟨⟨_, rfl, by decide, wr4 _ (List.mem_of_getElem? (i := 0) rfl)⟩, List.forall_mem_cons.mpr ⟨⟨_, rfl, by decide, wr7 _ (List.mem_of_getElem? (i := 14) rfl)⟩, fun _ h => absurd h List.not_mem_nil⟩⟩⟩
set_option maxRecDepth 100000 in
theorem am_fldP2 : ∀ e ∈ (am_fldL 2), am_FP 2 e := List.forall_mem_cons.mpr ⟨⟨_, rfl, by decide, wr4 _ (List.mem_of_getElem? (i := 22) rfl)⟩, List.forall_mem_cons.mpr ⟨⟨_, rfl, by decide, wr11 _ (List.mem_of_getElem? (i := 15) rfl)⟩, List.forall_mem_cons.mpr ⟨⟨_, rfl, by decide, wr12 _ (List.mem_of_getElem? (i := 6) rfl)⟩, fun _ h => absurd h List.not_mem_nil⟩⟩⟩
set_option maxRecDepth 100000 in
theorem am_fldP3 : ∀ e ∈ (am_fldL 3), am_FP 3 e := List.forall_mem_cons.mpr ⟨⟨_, rfl, by decide, wr3 _ (List.mem_of_getElem? (i := 16) rfl)⟩, List.forall_mem_cons.mpr ⟨⟨_, rfl, by decide, wr3 _ (List.mem_of_getElem? (i := 17) rfl)⟩, fun _ h => absurd h List.not_mem_nil⟩⟩
set_option maxRecDepth 100000 in
theorem am_fldP4 : ∀ e ∈ (am_fldL 4), am_FP 4 e := List.forall_mem_cons.mpr ⟨⟨_, rfl, by decide, wr5 _ (List.mem_of_getElem? (i := 20) rfl)⟩, List.forall_mem_cons.mpr ⟨⟨_, rfl, by decide, wr5 _ (List.mem_of_getElem? (i := 21) rfl)⟩, List.forall_mem_cons.mpr ⟨⟨_, rfl, by decide, wr5 _ (List.mem_of_getElem? (i := 22) rfl)⟩, List.forall_mem_cons.mpr ⟨⟨_, rfl, by decide, wr5 _ (List.mem_of_getElem? (i := 23) rfl)⟩, List.forall_mem_cons.mpr ⟨⟨_, rfl, by decide, wr21 _ (List.mem_of_getElem? (i := 4) rfl)⟩, List.forall_mem_cons.mpr ⟨⟨_, rfl, by decide, wr21 _ (List.mem_of_getElem? (i := 10) rfl)⟩, List.forall_mem_cons.mpr ⟨⟨_, rfl, by decide, wr21 _ (List.mem_of_getElem? (i := 11) rfl)⟩, List.forall_mem_cons.mpr ⟨⟨_, rfl, by decide, wr21 _ (List.mem_of_getElem? (i := 16) rfl)⟩, fun _ h => absurd h List.not_mem_nil⟩⟩⟩⟩⟩⟩⟩⟩
set_option maxRecDepth 100000 in
theorem am_fldP5 : ∀ e ∈ (am_fldL 5), am_FP 5 e := List.forall_mem_cons.mpr ⟨⟨_, rfl, by decide, wr4 _ (List.mem_of_getElem? (i := 16) rfl)⟩, List.forall_mem_cons.mpr ⟨⟨_, rfl, by decide, wr4 _ (List.mem_of_getElem? (i := 17) rfl)⟩, List.forall_mem_cons.mpr ⟨⟨_, rfl, by decide, wr7 _ (List.mem_of_getElem? (i := 19) rfl)⟩, List.forall_mem_cons.mpr ⟨⟨_, rfl, by decide, wr8 _ (List.mem_of_getElem? (i := 14) rfl)⟩, List.forall_mem_cons.mpr ⟨⟨_, rfl, by decide, wr13 _ (List.mem_of_getElem? (i := 18) rfl)⟩, List.forall_mem_cons.mpr ⟨⟨_, rfl, by decide, wr22 _ (List.mem_of_getElem? (i := 7) rfl)⟩, List.forall_mem_cons.mpr ⟨⟨_, rfl, by decide, wr22 _ (List.mem_of_getElem? (i := 9) rfl)⟩, List.forall_mem_cons.mpr ⟨⟨_, rfl, by decide, wr22 _ (List.mem_of_getElem? (i := 10) rfl)⟩, List.forall_mem_cons.mpr ⟨⟨_, rfl, by decide, wr22 _ (List.mem_of_getElem? (i := 11) rfl)⟩, List.forall_mem_cons.mpr ⟨⟨_, rfl, by decide, wr22 _ (List.mem_of_getElem? (i := 12) rfl)⟩, List.forall_mem_cons.mpr ⟨⟨_, rfl, by decide, wr22 _ (List.mem_of_getElem? (i := 13) rfl)⟩, List.forall_mem_cons.mpr ⟨⟨_, rfl, by decide, wr22 _ (List.mem_of_getElem? (i := 14) rfl)⟩, List.forall_mem_cons.mpr ⟨⟨_, rfl, by decide, wr22 _ (List.mem_of_getElem? (i := 15) rfl)⟩, fun _ h => absurd h List.not_mem_nil⟩⟩⟩⟩⟩⟩⟩⟩⟩⟩⟩⟩⟩
set_option maxRecDepth 100000 in
theorem am_fldP6 : ∀ e ∈ (am_fldL 6), am_FP 6 e := List.forall_mem_cons.mpr ⟨⟨_, rfl, by decide, wr6 _ (List.mem_of_getElem? (i := 8) rfl)⟩, List.forall_mem_cons.mpr ⟨⟨_, rfl, by decide, wr6 _ (List.mem_of_getElem? (i := 9) rfl)⟩, List.forall_mem_cons.mpr ⟨⟨_, rfl, by decide, wr6 _ (List.mem_of_getElem? (i := 10) rfl)⟩, List.forall_mem_cons.mpr ⟨⟨_, rfl, by decide, wr28 _ (List.mem_of_getElem? (i := 8) rfl)⟩, List.forall_mem_cons.mpr ⟨⟨_, rfl, by decide, wr28 _ (List.mem_of_getElem? (i := 9) rfl)⟩, List.forall_mem_cons.mpr ⟨⟨_, rfl, by decide, wr28 _ (List.mem_of_getElem? (i := 10) rfl)⟩, List.forall_mem_cons.mpr ⟨⟨_, rfl, by decide, wr29 _ (List.mem_of_getElem? (i := 12) rfl)⟩, List.forall_mem_cons.mpr ⟨⟨_, rfl, by decide, wr29 _ (List.mem_of_getElem? (i := 16) rfl)⟩, List.forall_mem_cons.mpr ⟨⟨_, rfl, by decide, wr29 _ (List.mem_of_getElem? (i := 17) rfl)⟩, List.forall_mem_cons.mpr ⟨⟨_, rfl, by decide, wr29 _ (List.mem_of_getElem? (i := 18) rfl)⟩, List.forall_mem_cons.mpr ⟨⟨_, rfl, by decide, wr29 _ (List.mem_of_getElem? (i := 19) rfl)⟩, fun _ h => absurd h List.not_mem_nil⟩⟩⟩⟩⟩⟩⟩⟩⟩⟩⟩
set_option maxRecDepth 100000 in
theorem am_fldP7 : ∀ e ∈ (am_fldL 7), am_FP 7 e := List.forall_mem_cons.mpr ⟨⟨_, rfl, by decide, wr5 _ (List.mem_of_getElem? (i := 11) rfl)⟩, List.forall_mem_cons.mpr ⟨⟨_, rfl, by decide, wr5 _ (List.mem_of_getElem? (i := 12) rfl)⟩, List.forall_mem_cons.mpr ⟨⟨_, rfl, by decide, wr5 _ (List.mem_of_getElem? (i := 13) rfl)⟩, List.forall_mem_cons.mpr ⟨⟨_, rfl, by decide, wr5 _ (List.mem_of_getElem? (i := 15) rfl)⟩, List.forall_mem_cons.mpr ⟨⟨_, rfl, by decide, wr9 _ (List.mem_of_getElem? (i := 13) rfl)⟩, fun _ h => absurd h List.not_mem_nil⟩⟩⟩⟩⟩
set_option maxRecDepth 100000 in
theorem am_fldP8 : ∀ e ∈ (am_fldL 8), am_FP 8 e := List.forall_mem_cons.mpr ⟨⟨_, rfl, by decide, wr3 _ (List.mem_of_getElem? (i := 0) rfl)⟩, List.forall_mem_cons.mpr ⟨⟨_, rfl, by decide, wr3 _ (List.mem_of_getElem? (i := 4) rfl)⟩, List.forall_mem_cons.mpr ⟨⟨_, rfl, by decide, wr3 _ (List.mem_of_getElem? (i := 8) rfl)⟩, List.forall_mem_cons.mpr ⟨⟨_, rfl, by decide, wr3 _ (List.mem_of_getElem? (i := 10) rfl)⟩, List.forall_mem_cons.mpr ⟨⟨_, rfl, by decide, wr3 _ (List.mem_of_getElem? (i := 12) rfl)⟩, fun _ h => absurd h List.not_mem_nil⟩⟩⟩⟩⟩
set_option maxRecDepth 100000 in
theorem am_fldP9 : ∀ e ∈ (am_fldL 9), am_FP 9 e := List.forall_mem_cons.mpr ⟨⟨_, rfl, by decide, wr5 _ (List.mem_of_getElem? (i := 2) rfl)⟩, List.forall_mem_cons.mpr ⟨⟨_, rfl, by decide, wr5 _ (List.mem_of_getElem? (i := 3) rfl)⟩, List.forall_mem_cons.mpr ⟨⟨_, rfl, by decide, wr5 _ (List.mem_of_getElem? (i := 4) rfl)⟩, List.forall_mem_cons.mpr ⟨⟨_, rfl, by decide, wr5 _ (List.mem_of_getElem? (i := 6) rfl)⟩, List.forall_mem_cons.mpr ⟨⟨_, rfl, by decide, wr5 _ (List.mem_of_getElem? (i := 7) rfl)⟩, List.forall_mem_cons.mpr ⟨⟨_, rfl, by decide, wr11 _ (List.mem_of_getElem? (i := 10) rfl)⟩, List.forall_mem_cons.mpr ⟨⟨_, rfl, by decide, wr25 _ (List.mem_of_getElem? (i := 13) rfl)⟩, fun _ h => absurd h List.not_mem_nil⟩⟩⟩⟩⟩⟩⟩
set_option maxRecDepth 100000 in
theorem am_fldP10 : ∀ e ∈ (am_fldL 10), am_FP 10 e := List.forall_mem_cons.mpr ⟨⟨_, rfl, by decide, wr18 _ (List.mem_of_getElem? (i := 16) rfl)⟩, List.forall_mem_cons.mpr ⟨⟨_, rfl, by decide, wr18 _ (List.mem_of_getElem? (i := 17) rfl)⟩, List.forall_mem_cons.mpr ⟨⟨_, rfl, by decide, wr18 _ (List.mem_of_getElem? (i := 18) rfl)⟩, List.forall_mem_cons.mpr ⟨⟨_, rfl, by decide, wr18 _ (List.mem_of_getElem? (i := 19) rfl)⟩, List.forall_mem_cons.mpr ⟨⟨_, rfl, by decide, wr18 _ (List.mem_of_getElem? (i := 20) rfl)⟩, List.forall_mem_cons.mpr ⟨⟨_, rfl, by decide, wr18 _ (List.mem_of_getElem? (i := 21) rfl)⟩, List.forall_mem_cons.mpr ⟨⟨_, rfl, by decide, wr18 _ (List.mem_of_getElem? (i := 22) rfl)⟩, List.forall_mem_cons.mpr ⟨⟨_, rfl, by decide, wr18 _ (List.mem_of_getElem? (i := 23) rfl)⟩, fun _ h => absurd h List.not_mem_nil⟩⟩⟩⟩⟩⟩⟩⟩
set_option maxRecDepth 100000 in
theorem am_fldP11 : ∀ e ∈ (am_fldL 11), am_FP 11 e := List.forall_mem_cons.mpr ⟨⟨_, rfl, by decide, wr1 _ (List.mem_of_getElem? (i := 12) rfl)⟩, List.forall_mem_cons.mpr ⟨⟨_, rfl, by decide, wr1 _ (List.mem_of_getElem? (i := 16) rfl)⟩, List.forall_mem_cons.mpr ⟨⟨_, rfl, by decide, wr1 _ (List.mem_of_getElem? (i := 17) rfl)⟩, List.forall_mem_cons.mpr ⟨⟨_, rfl, by decide, wr1 _ (List.mem_of_getElem? (i := 21) rfl)⟩, List.forall_mem_cons.mpr ⟨⟨_, rfl, by decide, wr2 _ (List.mem_of_getElem? (i := 1) rfl)⟩, List.forall_mem_cons.mpr ⟨⟨_, rfl, by decide, wr2 _ (List.mem_of_getElem? (i := 5) rfl)⟩, List.forall_mem_cons.mpr ⟨⟨_, rfl, by decide, wr2 _ (List.mem_of_getElem? (i := 9) rfl)⟩, List.forall_mem_cons.mpr ⟨⟨_, rfl, by decide, wr2 _ (List.mem_of_getElem? (i := 13) rfl)⟩, List.forall_mem_cons.mpr ⟨⟨_, rfl, by decide, wr2 _ (List.mem_of_getElem? (i := 17) rfl)⟩, List.forall_mem_cons.mpr ⟨⟨_, rfl, by decide, wr7 _ (List.mem_of_getElem? (i := 5) rfl)⟩, List.forall_mem_cons.mpr ⟨⟨_, rfl, by decide, wr7 _ (List.mem_of_getElem? (i := 6) rfl)⟩, List.forall_mem_cons.mpr ⟨⟨_, rfl, by decide, wr7 _ (List.mem_of_getElem? (i := 7) rfl)⟩, List.forall_mem_cons.mpr ⟨⟨_, rfl, by decide, wr9 _ (List.mem_of_getElem? (i := 4) rfl)⟩, List.forall_mem_cons.mpr ⟨⟨_, rfl, by decide, wr14 _ (List.mem_of_getElem? (i := 6) rfl)⟩, List.forall_mem_cons.mpr ⟨⟨_, rfl, by decide, wr14 _ (List.mem_of_getElem? (i := 19) rfl)⟩, List.forall_mem_cons.mpr ⟨⟨_, rfl, by decide, wr16 _ (List.mem_of_getElem? (i := 18) rfl)⟩, List.forall_mem_cons.mpr ⟨⟨_, rfl, by decide, wr16 _ (List.mem_of_getElem? (i := 19) rfl)⟩, List.forall_mem_cons.mpr ⟨⟨_, rfl, by decide, wr19 _ (List.mem_of_getElem? (i := 13) rfl)⟩, List.forall_mem_cons.mpr ⟨⟨_, rfl, by decide, wr31 _ (List.mem_of_getElem? (i := 0) rfl)⟩, List.forall_mem_cons.mpr ⟨⟨_, rfl, by decide, wr31 _ (List.mem_of_getElem? (i := 1) rfl)⟩, List.forall_mem_cons.mpr ⟨⟨_, rfl, by decide, wr31 _ (List.mem_of_getElem? (i := 2) rfl)⟩, List.forall_mem_cons.mpr ⟨⟨_, rfl, by decide, wr31 _ (List.mem_of_getElem? (i := 3) rfl)⟩, fun _ h => absurd h List.not_mem_nil⟩⟩⟩⟩⟩⟩⟩⟩⟩⟩⟩⟩⟩⟩⟩⟩⟩⟩⟩⟩⟩⟩
theorem am_fldP (c : Nat) : ∀ e ∈ am_fldL c, am_FP c e := by
  match c with
  | 0 => exact am_fldP0
  | 1 => exact am_fldP1
  | 2 => exact am_fldP2
  | 3 => exact am_fldP3
  | 4 => exact am_fldP4
  | 5 => exact am_fldP5
  | 6 => exact am_fldP6
  | 7 => exact am_fldP7
  | 8 => exact am_fldP8
  | 9 => exact am_fldP9
  | 10 => exact am_fldP10
  | 11 => exact am_fldP11
  | 12 => exact fun _ h => absurd h List.not_mem_nil
  | 13 => exact fun _ h => absurd h List.not_mem_nil
  | 14 => exact fun _ h => absurd h List.not_mem_nil
  | _ + 15 => exact fun _ h => absurd h List.not_mem_nil
def am_KP (c : Nat) (e : Nat × Int32) : Prop := Cond.constant (am_cn c) e.1 e.2 ∈ wsL_law
set_option maxRecDepth 100000 in
theorem am_conP0 : ∀ e ∈ (am_conL 0), am_KP 0 e := List.forall_mem_cons.mpr ⟨wr4 _ (List.mem_of_getElem? (i := 10) rfl), fun _ h => absurd h List.not_mem_nil⟩
set_option maxRecDepth 100000 in
theorem am_conP3 : ∀ e ∈ (am_conL 3), am_KP 3 e := List.forall_mem_cons.mpr ⟨wr10 _ (List.mem_of_getElem? (i := 4) rfl), fun _ h => absurd h List.not_mem_nil⟩
set_option maxRecDepth 100000 in
theorem am_conP4 : ∀ e ∈ (am_conL 4), am_KP 4 e := List.forall_mem_cons.mpr ⟨wr21 _ (List.mem_of_getElem? (i := 17) rfl), fun _ h => absurd h List.not_mem_nil⟩
set_option maxRecDepth 100000 in
theorem am_conP5 : ∀ e ∈ (am_conL 5), am_KP 5 e := List.forall_mem_cons.mpr ⟨wr8 _ (List.mem_of_getElem? (i := 19) rfl), List.forall_mem_cons.mpr ⟨wr22 _ (List.mem_of_getElem? (i := 8) rfl), fun _ h => absurd h List.not_mem_nil⟩⟩
set_option maxRecDepth 100000 in
theorem am_conP8 : ∀ e ∈ (am_conL 8), am_KP 8 e := List.forall_mem_cons.mpr ⟨wr3 _ (List.mem_of_getElem? (i := 11) rfl), fun _ h => absurd h List.not_mem_nil⟩
set_option maxRecDepth 100000 in
theorem am_conP9 : ∀ e ∈ (am_conL 9), am_KP 9 e := List.forall_mem_cons.mpr ⟨wr5 _ (List.mem_of_getElem? (i := 5) rfl), fun _ h => absurd h List.not_mem_nil⟩
set_option maxRecDepth 100000 in
theorem am_conP10 : ∀ e ∈ (am_conL 10), am_KP 10 e := List.forall_mem_cons.mpr ⟨wr20 _ (List.mem_of_getElem? (i := 0) rfl), fun _ h => absurd h List.not_mem_nil⟩
set_option maxRecDepth 100000 in
theorem am_conP11 : ∀ e ∈ (am_conL 11), am_KP 11 e := List.forall_mem_cons.mpr ⟨wr7 _ (List.mem_of_getElem? (i := 8) rfl), List.forall_mem_cons.mpr ⟨wr7 _ (List.mem_of_getElem? (i := 9) rfl), List.forall_mem_cons.mpr ⟨wr14 _ (List.mem_of_getElem? (i := 18) rfl), List.forall_mem_cons.mpr ⟨wr23 _ (List.mem_of_getElem? (i := 12) rfl), List.forall_mem_cons.mpr ⟨wr25 _ (List.mem_of_getElem? (i := 0) rfl), fun _ h => absurd h List.not_mem_nil⟩⟩⟩⟩⟩
set_option maxRecDepth 100000 in
theorem am_conP14 : ∀ e ∈ (am_conL 14), am_KP 14 e := List.forall_mem_cons.mpr ⟨wr6 _ (List.mem_of_getElem? (i := 16) rfl), List.forall_mem_cons.mpr ⟨wr6 _ (List.mem_of_getElem? (i := 20) rfl), List.forall_mem_cons.mpr ⟨wr7 _ (List.mem_of_getElem? (i := 0) rfl), List.forall_mem_cons.mpr ⟨wr27 _ (List.mem_of_getElem? (i := 23) rfl), fun _ h => absurd h List.not_mem_nil⟩⟩⟩⟩
theorem am_conP (c : Nat) : ∀ e ∈ am_conL c, am_KP c e := by
  match c with
  | 0 => exact am_conP0
  | 1 => exact fun _ h => absurd h List.not_mem_nil
  | 2 => exact fun _ h => absurd h List.not_mem_nil
  | 3 => exact am_conP3
  | 4 => exact am_conP4
  | 5 => exact am_conP5
  | 6 => exact fun _ h => absurd h List.not_mem_nil
  | 7 => exact fun _ h => absurd h List.not_mem_nil
  | 8 => exact am_conP8
  | 9 => exact am_conP9
  | 10 => exact am_conP10
  | 11 => exact am_conP11
  | 12 => exact fun _ h => absurd h List.not_mem_nil
  | 13 => exact fun _ h => absurd h List.not_mem_nil
  | 14 => exact am_conP14
  | _ + 15 => exact fun _ h => absurd h List.not_mem_nil
def am_LP (c : Nat) (e : Nat × Int64) : Prop := Cond.constantLong (am_cn c) e.1 e.2 ∈ wsL_law
set_option maxRecDepth 100000 in
theorem am_lngP3 : ∀ e ∈ (am_lngL 3), am_LP 3 e := List.forall_mem_cons.mpr ⟨wr10 _ (List.mem_of_getElem? (i := 5) rfl), fun _ h => absurd h List.not_mem_nil⟩
set_option maxRecDepth 100000 in
theorem am_lngP7 : ∀ e ∈ (am_lngL 7), am_LP 7 e := List.forall_mem_cons.mpr ⟨wr9 _ (List.mem_of_getElem? (i := 19) rfl), fun _ h => absurd h List.not_mem_nil⟩
set_option maxRecDepth 100000 in
theorem am_lngP10 : ∀ e ∈ (am_lngL 10), am_LP 10 e := List.forall_mem_cons.mpr ⟨wr11 _ (List.mem_of_getElem? (i := 5) rfl), List.forall_mem_cons.mpr ⟨wr21 _ (List.mem_of_getElem? (i := 22) rfl), fun _ h => absurd h List.not_mem_nil⟩⟩
set_option maxRecDepth 100000 in
theorem am_lngP11 : ∀ e ∈ (am_lngL 11), am_LP 11 e := List.forall_mem_cons.mpr ⟨wr19 _ (List.mem_of_getElem? (i := 4) rfl), List.forall_mem_cons.mpr ⟨wr30 _ (List.mem_of_getElem? (i := 0) rfl), fun _ h => absurd h List.not_mem_nil⟩⟩
theorem am_lngP (c : Nat) : ∀ e ∈ am_lngL c, am_LP c e := by
  match c with
  | 0 => exact fun _ h => absurd h List.not_mem_nil
  | 1 => exact fun _ h => absurd h List.not_mem_nil
  | 2 => exact fun _ h => absurd h List.not_mem_nil
  | 3 => exact am_lngP3
  | 4 => exact fun _ h => absurd h List.not_mem_nil
  | 5 => exact fun _ h => absurd h List.not_mem_nil
  | 6 => exact fun _ h => absurd h List.not_mem_nil
  | 7 => exact am_lngP7
  | 8 => exact fun _ h => absurd h List.not_mem_nil
  | 9 => exact fun _ h => absurd h List.not_mem_nil
  | 10 => exact am_lngP10
  | 11 => exact am_lngP11
  | 12 => exact fun _ h => absurd h List.not_mem_nil
  | 13 => exact fun _ h => absurd h List.not_mem_nil
  | 14 => exact fun _ h => absurd h List.not_mem_nil
  | _ + 15 => exact fun _ h => absurd h List.not_mem_nil
set_option maxRecDepth 100000 in
theorem am_newP1 : ∀ e ∈ (am_newL 1), am_NP 1 e := List.forall_mem_cons.mpr ⟨⟨_, rfl, wr3 _ (List.mem_of_getElem? (i := 22) rfl), wr2 _ (List.mem_of_getElem? (i := 11) rfl), wr2 _ (List.mem_of_getElem? (i := 12) rfl)⟩, fun _ h => absurd h List.not_mem_nil⟩
set_option maxRecDepth 100000 in
theorem am_newP2 : ∀ e ∈ (am_newL 2), am_NP 2 e := List.forall_mem_cons.mpr ⟨⟨_, rfl, wr4 _ (List.mem_of_getElem? (i := 21) rfl), wr1 _ (List.mem_of_getElem? (i := 10) rfl), wr1 _ (List.mem_of_getElem? (i := 11) rfl)⟩, fun _ h => absurd h List.not_mem_nil⟩
set_option maxRecDepth 100000 in
theorem am_newP4 : ∀ e ∈ (am_newL 4), am_NP 4 e := List.forall_mem_cons.mpr ⟨⟨_, rfl, wr5 _ (List.mem_of_getElem? (i := 19) rfl), wr2 _ (List.mem_of_getElem? (i := 15) rfl), wr2 _ (List.mem_of_getElem? (i := 16) rfl)⟩, fun _ h => absurd h List.not_mem_nil⟩
set_option maxRecDepth 100000 in
theorem am_newP6 : ∀ e ∈ (am_newL 6), am_NP 6 e := List.forall_mem_cons.mpr ⟨⟨_, rfl, wr6 _ (List.mem_of_getElem? (i := 7) rfl), wr2 _ (List.mem_of_getElem? (i := 15) rfl), wr2 _ (List.mem_of_getElem? (i := 16) rfl)⟩, fun _ h => absurd h List.not_mem_nil⟩
set_option maxRecDepth 100000 in
theorem am_newP7 : ∀ e ∈ (am_newL 7), am_NP 7 e := List.forall_mem_cons.mpr ⟨⟨_, rfl, wr5 _ (List.mem_of_getElem? (i := 14) rfl), wr2 _ (List.mem_of_getElem? (i := 11) rfl), wr2 _ (List.mem_of_getElem? (i := 12) rfl)⟩, fun _ h => absurd h List.not_mem_nil⟩
set_option maxRecDepth 100000 in
theorem am_newP8 : ∀ e ∈ (am_newL 8), am_NP 8 e := List.forall_mem_cons.mpr ⟨⟨_, rfl, wr2 _ (List.mem_of_getElem? (i := 21) rfl), wr2 _ (List.mem_of_getElem? (i := 22) rfl), wr2 _ (List.mem_of_getElem? (i := 23) rfl)⟩, List.forall_mem_cons.mpr ⟨⟨_, rfl, wr3 _ (List.mem_of_getElem? (i := 1) rfl), wr3 _ (List.mem_of_getElem? (i := 2) rfl), wr3 _ (List.mem_of_getElem? (i := 3) rfl)⟩, List.forall_mem_cons.mpr ⟨⟨_, rfl, wr3 _ (List.mem_of_getElem? (i := 5) rfl), wr3 _ (List.mem_of_getElem? (i := 6) rfl), wr3 _ (List.mem_of_getElem? (i := 7) rfl)⟩, fun _ h => absurd h List.not_mem_nil⟩⟩⟩
set_option maxRecDepth 100000 in
theorem am_newP11 : ∀ e ∈ (am_newL 11), am_NP 11 e := List.forall_mem_cons.mpr ⟨⟨_, rfl, wr1 _ (List.mem_of_getElem? (i := 9) rfl), wr1 _ (List.mem_of_getElem? (i := 10) rfl), wr1 _ (List.mem_of_getElem? (i := 11) rfl)⟩, List.forall_mem_cons.mpr ⟨⟨_, rfl, wr1 _ (List.mem_of_getElem? (i := 13) rfl), wr1 _ (List.mem_of_getElem? (i := 14) rfl), wr1 _ (List.mem_of_getElem? (i := 15) rfl)⟩, List.forall_mem_cons.mpr ⟨⟨_, rfl, wr1 _ (List.mem_of_getElem? (i := 18) rfl), wr1 _ (List.mem_of_getElem? (i := 19) rfl), wr1 _ (List.mem_of_getElem? (i := 20) rfl)⟩, List.forall_mem_cons.mpr ⟨⟨_, rfl, wr1 _ (List.mem_of_getElem? (i := 22) rfl), wr1 _ (List.mem_of_getElem? (i := 23) rfl), wr2 _ (List.mem_of_getElem? (i := 0) rfl)⟩, List.forall_mem_cons.mpr ⟨⟨_, rfl, wr2 _ (List.mem_of_getElem? (i := 2) rfl), wr2 _ (List.mem_of_getElem? (i := 3) rfl), wr2 _ (List.mem_of_getElem? (i := 4) rfl)⟩, List.forall_mem_cons.mpr ⟨⟨_, rfl, wr2 _ (List.mem_of_getElem? (i := 6) rfl), wr2 _ (List.mem_of_getElem? (i := 7) rfl), wr2 _ (List.mem_of_getElem? (i := 8) rfl)⟩, List.forall_mem_cons.mpr ⟨⟨_, rfl, wr2 _ (List.mem_of_getElem? (i := 10) rfl), wr2 _ (List.mem_of_getElem? (i := 11) rfl), wr2 _ (List.mem_of_getElem? (i := 12) rfl)⟩, List.forall_mem_cons.mpr ⟨⟨_, rfl, wr2 _ (List.mem_of_getElem? (i := 14) rfl), wr2 _ (List.mem_of_getElem? (i := 15) rfl), wr2 _ (List.mem_of_getElem? (i := 16) rfl)⟩, fun _ h => absurd h List.not_mem_nil⟩⟩⟩⟩⟩⟩⟩⟩
set_option maxRecDepth 100000 in
theorem am_newP14 : ∀ e ∈ (am_newL 14), am_NP 14 e := List.forall_mem_cons.mpr ⟨⟨_, rfl, wr1 _ (List.mem_of_getElem? (i := 0) rfl), wr1 _ (List.mem_of_getElem? (i := 1) rfl), wr1 _ (List.mem_of_getElem? (i := 2) rfl)⟩, fun _ h => absurd h List.not_mem_nil⟩
theorem am_newP (c : Nat) : ∀ e ∈ am_newL c, am_NP c e := by
  match c with
  | 0 => exact fun _ h => absurd h List.not_mem_nil
  | 1 => exact am_newP1
  | 2 => exact am_newP2
  | 3 => exact fun _ h => absurd h List.not_mem_nil
  | 4 => exact am_newP4
  | 5 => exact fun _ h => absurd h List.not_mem_nil
  | 6 => exact am_newP6
  | 7 => exact am_newP7
  | 8 => exact am_newP8
  | 9 => exact fun _ h => absurd h List.not_mem_nil
  | 10 => exact fun _ h => absurd h List.not_mem_nil
  | 11 => exact am_newP11
  | 12 => exact fun _ h => absurd h List.not_mem_nil
  | 13 => exact fun _ h => absurd h List.not_mem_nil
  | 14 => exact am_newP14
  | _ + 15 => exact fun _ h => absurd h List.not_mem_nil
set_option maxRecDepth 100000 in
theorem am_anP1 : ∀ e ∈ (am_anL 1), am_AP 1 e := List.forall_mem_cons.mpr ⟨⟨⟨by decide, by decide⟩, wr3 _ (List.mem_of_getElem? (i := 22) rfl)⟩, fun _ h => absurd h List.not_mem_nil⟩
set_option maxRecDepth 100000 in
theorem am_anP2 : ∀ e ∈ (am_anL 2), am_AP 2 e := List.forall_mem_cons.mpr ⟨⟨⟨by decide, by decide⟩, wr4 _ (List.mem_of_getElem? (i := 21) rfl)⟩, fun _ h => absurd h List.not_mem_nil⟩
set_option maxRecDepth 100000 in
theorem am_anP6 : ∀ e ∈ (am_anL 6), am_AP 6 e := List.forall_mem_cons.mpr ⟨⟨⟨by decide, by decide⟩, wr6 _ (List.mem_of_getElem? (i := 7) rfl)⟩, fun _ h => absurd h List.not_mem_nil⟩
set_option maxRecDepth 100000 in
theorem am_anP7 : ∀ e ∈ (am_anL 7), am_AP 7 e := List.forall_mem_cons.mpr ⟨⟨⟨by decide, by decide⟩, wr5 _ (List.mem_of_getElem? (i := 14) rfl)⟩, fun _ h => absurd h List.not_mem_nil⟩
set_option maxRecDepth 100000 in
theorem am_anP11 : ∀ e ∈ (am_anL 11), am_AP 11 e := List.forall_mem_cons.mpr ⟨⟨⟨by decide, by decide⟩, wr1 _ (List.mem_of_getElem? (i := 9) rfl)⟩, fun _ h => absurd h List.not_mem_nil⟩
theorem am_anP (c : Nat) : ∀ e ∈ am_anL c, am_AP c e := by
  match c with
  | 0 => exact fun _ h => absurd h List.not_mem_nil
  | 1 => exact am_anP1
  | 2 => exact am_anP2
  | 3 => exact fun _ h => absurd h List.not_mem_nil
  | 4 => exact fun _ h => absurd h List.not_mem_nil
  | 5 => exact fun _ h => absurd h List.not_mem_nil
  | 6 => exact am_anP6
  | 7 => exact am_anP7
  | 8 => exact fun _ h => absurd h List.not_mem_nil
  | 9 => exact fun _ h => absurd h List.not_mem_nil
  | 10 => exact fun _ h => absurd h List.not_mem_nil
  | 11 => exact am_anP11
  | 12 => exact fun _ h => absurd h List.not_mem_nil
  | 13 => exact fun _ h => absurd h List.not_mem_nil
  | 14 => exact fun _ h => absurd h List.not_mem_nil
  | _ + 15 => exact fun _ h => absurd h List.not_mem_nil
set_option maxRecDepth 100000 in
theorem am_spP0 : ∀ e ∈ (am_spL 0), am_SP 0 e := List.forall_mem_cons.mpr ⟨⟨fun _ => wr4 _ (List.mem_of_getElem? (i := 4) rfl), fun h => absurd h (by decide), fun h => absurd h (by decide), fun h => absurd h (by decide)⟩, List.forall_mem_cons.mpr ⟨⟨fun h => absurd h (by decide), fun _ => wr13 _ (List.mem_of_getElem? (i := 13) rfl), fun h => absurd h (by decide), fun h => absurd h (by decide)⟩, fun _ h => absurd h List.not_mem_nil⟩⟩
set_option maxRecDepth 100000 in
theorem am_spP1 : ∀ e ∈ (am_spL 1), am_SP 1 e := List.forall_mem_cons.mpr ⟨⟨fun _ => wr3 _ (List.mem_of_getElem? (i := 21) rfl), fun h => absurd h (by decide), fun h => absurd h (by decide), fun h => absurd h (by decide)⟩, fun _ h => absurd h List.not_mem_nil⟩
set_option maxRecDepth 100000 in
theorem am_spP2 : ∀ e ∈ (am_spL 2), am_SP 2 e := List.forall_mem_cons.mpr ⟨⟨fun _ => wr4 _ (List.mem_of_getElem? (i := 20) rfl), fun h => absurd h (by decide), fun h => absurd h (by decide), fun h => absurd h (by decide)⟩, fun _ h => absurd h List.not_mem_nil⟩
set_option maxRecDepth 100000 in
theorem am_spP3 : ∀ e ∈ (am_spL 3), am_SP 3 e := List.forall_mem_cons.mpr ⟨⟨fun _ => wr3 _ (List.mem_of_getElem? (i := 15) rfl), fun h => absurd h (by decide), fun h => absurd h (by decide), fun h => absurd h (by decide)⟩, List.forall_mem_cons.mpr ⟨⟨fun h => absurd h (by decide), fun _ => wr13 _ (List.mem_of_getElem? (i := 3) rfl), fun h => absurd h (by decide), fun h => absurd h (by decide)⟩, fun _ h => absurd h List.not_mem_nil⟩⟩
set_option maxRecDepth 100000 in
theorem am_spP4 : ∀ e ∈ (am_spL 4), am_SP 4 e := List.forall_mem_cons.mpr ⟨⟨fun _ => wr5 _ (List.mem_of_getElem? (i := 18) rfl), fun h => absurd h (by decide), fun h => absurd h (by decide), fun h => absurd h (by decide)⟩, fun _ h => absurd h List.not_mem_nil⟩
set_option maxRecDepth 100000 in
theorem am_spP5 : ∀ e ∈ (am_spL 5), am_SP 5 e := List.forall_mem_cons.mpr ⟨⟨fun _ => wr4 _ (List.mem_of_getElem? (i := 15) rfl), fun h => absurd h (by decide), fun h => absurd h (by decide), fun h => absurd h (by decide)⟩, List.forall_mem_cons.mpr ⟨⟨fun h => absurd h (by decide), fun h => absurd h (by decide), fun _ => wr18 _ (List.mem_of_getElem? (i := 7) rfl), fun h => absurd h (by decide)⟩, List.forall_mem_cons.mpr ⟨⟨fun h => absurd h (by decide), fun _ => wr13 _ (List.mem_of_getElem? (i := 19) rfl), fun h => absurd h (by decide), fun h => absurd h (by decide)⟩, fun _ h => absurd h List.not_mem_nil⟩⟩⟩
set_option maxRecDepth 100000 in
theorem am_spP6 : ∀ e ∈ (am_spL 6), am_SP 6 e := List.forall_mem_cons.mpr ⟨⟨fun _ => wr6 _ (List.mem_of_getElem? (i := 6) rfl), fun h => absurd h (by decide), fun h => absurd h (by decide), fun h => absurd h (by decide)⟩, fun _ h => absurd h List.not_mem_nil⟩
set_option maxRecDepth 100000 in
theorem am_spP7 : ∀ e ∈ (am_spL 7), am_SP 7 e := List.forall_mem_cons.mpr ⟨⟨fun _ => wr5 _ (List.mem_of_getElem? (i := 10) rfl), fun h => absurd h (by decide), fun h => absurd h (by decide), fun h => absurd h (by decide)⟩, List.forall_mem_cons.mpr ⟨⟨fun h => absurd h (by decide), fun h => absurd h (by decide), fun _ => wr9 _ (List.mem_of_getElem? (i := 9) rfl), fun h => absurd h (by decide)⟩, List.forall_mem_cons.mpr ⟨⟨fun h => absurd h (by decide), fun _ => wr17 _ (List.mem_of_getElem? (i := 4) rfl), fun h => absurd h (by decide), fun h => absurd h (by decide)⟩, fun _ h => absurd h List.not_mem_nil⟩⟩⟩
set_option maxRecDepth 100000 in
theorem am_spP8 : ∀ e ∈ (am_spL 8), am_SP 8 e := List.forall_mem_cons.mpr ⟨⟨fun _ => wr2 _ (List.mem_of_getElem? (i := 20) rfl), fun h => absurd h (by decide), fun h => absurd h (by decide), fun h => absurd h (by decide)⟩, List.forall_mem_cons.mpr ⟨⟨fun h => absurd h (by decide), fun _ => wr12 _ (List.mem_of_getElem? (i := 19) rfl), fun h => absurd h (by decide), fun h => absurd h (by decide)⟩, fun _ h => absurd h List.not_mem_nil⟩⟩
set_option maxRecDepth 100000 in
theorem am_spP9 : ∀ e ∈ (am_spL 9), am_SP 9 e := List.forall_mem_cons.mpr ⟨⟨fun _ => wr5 _ (List.mem_of_getElem? (i := 1) rfl), fun h => absurd h (by decide), fun h => absurd h (by decide), fun h => absurd h (by decide)⟩, fun _ h => absurd h List.not_mem_nil⟩
set_option maxRecDepth 100000 in
theorem am_spP10 : ∀ e ∈ (am_spL 10), am_SP 10 e := List.forall_mem_cons.mpr ⟨⟨fun _ => wr6 _ (List.mem_of_getElem? (i := 2) rfl), fun h => absurd h (by decide), fun h => absurd h (by decide), fun h => absurd h (by decide)⟩, fun _ h => absurd h List.not_mem_nil⟩
set_option maxRecDepth 100000 in
theorem am_spP11 : ∀ e ∈ (am_spL 11), am_SP 11 e := List.forall_mem_cons.mpr ⟨⟨fun _ => wr1 _ (List.mem_of_getElem? (i := 6) rfl), fun h => absurd h (by decide), fun h => absurd h (by decide), fun h => absurd h (by decide)⟩, List.forall_mem_cons.mpr ⟨⟨fun h => absurd h (by decide), fun h => absurd h (by decide), fun h => absurd h (by decide), fun _ => wr16 _ (List.mem_of_getElem? (i := 0) rfl)⟩, fun _ h => absurd h List.not_mem_nil⟩⟩
theorem am_spP (c : Nat) : ∀ e ∈ am_spL c, am_SP c e := by
  match c with
  | 0 => exact am_spP0
  | 1 => exact am_spP1
  | 2 => exact am_spP2
  | 3 => exact am_spP3
  | 4 => exact am_spP4
  | 5 => exact am_spP5
  | 6 => exact am_spP6
  | 7 => exact am_spP7
  | 8 => exact am_spP8
  | 9 => exact am_spP9
  | 10 => exact am_spP10
  | 11 => exact am_spP11
  | 12 => exact fun _ h => absurd h List.not_mem_nil
  | 13 => exact fun _ h => absurd h List.not_mem_nil
  | 14 => exact fun _ h => absurd h List.not_mem_nil
  | _ + 15 => exact fun _ h => absurd h List.not_mem_nil
set_option maxRecDepth 100000 in
theorem moJ9_floorMod_7cf53 : am_MO mJ9_floorMod_7cf53 := ⟨wr12 _ (List.mem_of_getElem? (i := 14) rfl), by decide +kernel, ⟨by decide +kernel, by decide +kernel⟩, wr9 _ (List.mem_of_getElem? (i := 11) rfl), rfl⟩
set_option maxRecDepth 100000 in
theorem moL_areAlike : am_MO mL_areAlike := ⟨wr33 _ (List.mem_of_getElem? (i := 13) rfl), by decide +kernel, ⟨by decide +kernel, by decide +kernel⟩, wr6 _ (List.mem_of_getElem? (i := 14) rfl), rfl⟩
set_option maxRecDepth 100000 in
theorem moL_cell : am_MO mL_cell := ⟨wr6 _ (List.mem_of_getElem? (i := 15) rfl), by decide +kernel, ⟨by decide +kernel, by decide +kernel⟩, wr6 _ (List.mem_of_getElem? (i := 14) rfl), rfl⟩
set_option maxRecDepth 100000 in
theorem moL_change : am_MO mL_change := ⟨wr6 _ (List.mem_of_getElem? (i := 23) rfl), by decide +kernel, ⟨by decide +kernel, by decide +kernel⟩, wr6 _ (List.mem_of_getElem? (i := 14) rfl), rfl⟩
set_option maxRecDepth 100000 in
theorem moL_isAccepted : am_MO mL_isAccepted := ⟨wr32 _ (List.mem_of_getElem? (i := 22) rfl), by decide +kernel, ⟨by decide +kernel, by decide +kernel⟩, wr6 _ (List.mem_of_getElem? (i := 14) rfl), rfl⟩
set_option maxRecDepth 100000 in
theorem moL_isAgain : am_MO mL_isAgain := ⟨wr30 _ (List.mem_of_getElem? (i := 19) rfl), by decide +kernel, ⟨by decide +kernel, by decide +kernel⟩, wr6 _ (List.mem_of_getElem? (i := 14) rfl), rfl⟩
set_option maxRecDepth 100000 in
theorem moL_isReport : am_MO mL_isReport := ⟨wr27 _ (List.mem_of_getElem? (i := 22) rfl), by decide +kernel, ⟨by decide +kernel, by decide +kernel⟩, wr6 _ (List.mem_of_getElem? (i := 14) rfl), rfl⟩
set_option maxRecDepth 100000 in
theorem moL_isSorted : am_MO mL_isSorted := ⟨wr32 _ (List.mem_of_getElem? (i := 11) rfl), by decide +kernel, ⟨by decide +kernel, by decide +kernel⟩, wr6 _ (List.mem_of_getElem? (i := 14) rfl), rfl⟩
set_option maxRecDepth 100000 in
theorem moL_low : am_MO mL_low := ⟨wr6 _ (List.mem_of_getElem? (i := 19) rfl), by decide +kernel, ⟨by decide +kernel, by decide +kernel⟩, wr6 _ (List.mem_of_getElem? (i := 14) rfl), rfl⟩
set_option maxRecDepth 100000 in
theorem moL_number : am_MO mL_number := ⟨wr24 _ (List.mem_of_getElem? (i := 19) rfl), by decide +kernel, ⟨by decide +kernel, by decide +kernel⟩, wr6 _ (List.mem_of_getElem? (i := 14) rfl), rfl⟩
set_option maxRecDepth 100000 in
theorem moL_write : am_MO mL_write := ⟨wr24 _ (List.mem_of_getElem? (i := 8) rfl), by decide +kernel, ⟨by decide +kernel, by decide +kernel⟩, wr6 _ (List.mem_of_getElem? (i := 14) rfl), rfl⟩
set_option maxRecDepth 100000 in
theorem moX0_clear : am_MO mX0_clear := ⟨wr4 _ (List.mem_of_getElem? (i := 9) rfl), by decide +kernel, ⟨by decide +kernel, by decide +kernel⟩, wr2 _ (List.mem_of_getElem? (i := 12) rfl), rfl⟩
set_option maxRecDepth 100000 in
theorem moX0_copyFrom : am_MO mX0_copyFrom := ⟨wr13 _ (List.mem_of_getElem? (i := 12) rfl), by decide +kernel, ⟨by decide +kernel, by decide +kernel⟩, wr2 _ (List.mem_of_getElem? (i := 12) rfl), rfl⟩
set_option maxRecDepth 100000 in
theorem moX0_init : am_MO mX0_init := ⟨wr4 _ (List.mem_of_getElem? (i := 3) rfl), by decide +kernel, ⟨by decide +kernel, by decide +kernel⟩, wr2 _ (List.mem_of_getElem? (i := 12) rfl), rfl⟩
set_option maxRecDepth 100000 in
theorem moX0_readFrom : am_MO mX0_readFrom := ⟨wr19 _ (List.mem_of_getElem? (i := 17) rfl), by decide +kernel, ⟨by decide +kernel, by decide +kernel⟩, wr2 _ (List.mem_of_getElem? (i := 12) rfl), rfl⟩
set_option maxRecDepth 100000 in
theorem moX0_show : am_MO mX0_show := ⟨wr16 _ (List.mem_of_getElem? (i := 13) rfl), by decide +kernel, ⟨by decide +kernel, by decide +kernel⟩, wr2 _ (List.mem_of_getElem? (i := 12) rfl), rfl⟩
set_option maxRecDepth 100000 in
theorem moX0_shows : am_MO mX0_shows := ⟨wr10 _ (List.mem_of_getElem? (i := 23) rfl), by decide +kernel, ⟨by decide +kernel, by decide +kernel⟩, wr2 _ (List.mem_of_getElem? (i := 12) rfl), rfl⟩
set_option maxRecDepth 100000 in
theorem moX10_addCard : am_MO mX10_addCard := ⟨wr23 _ (List.mem_of_getElem? (i := 3) rfl), by decide +kernel, ⟨by decide +kernel, by decide +kernel⟩, wr2 _ (List.mem_of_getElem? (i := 16) rfl), rfl⟩
set_option maxRecDepth 100000 in
theorem moX10_addOvertime : am_MO mX10_addOvertime := ⟨wr22 _ (List.mem_of_getElem? (i := 2) rfl), by decide +kernel, ⟨by decide +kernel, by decide +kernel⟩, wr2 _ (List.mem_of_getElem? (i := 16) rfl), rfl⟩
set_option maxRecDepth 100000 in
theorem moX10_clear : am_MO mX10_clear := ⟨wr18 _ (List.mem_of_getElem? (i := 15) rfl), by decide +kernel, ⟨by decide +kernel, by decide +kernel⟩, wr2 _ (List.mem_of_getElem? (i := 16) rfl), rfl⟩
set_option maxRecDepth 100000 in
theorem moX10_fillFrom : am_MO mX10_fillFrom := ⟨wr19 _ (List.mem_of_getElem? (i := 23) rfl), by decide +kernel, ⟨by decide +kernel, by decide +kernel⟩, wr2 _ (List.mem_of_getElem? (i := 16) rfl), rfl⟩
set_option maxRecDepth 100000 in
theorem moX10_init : am_MO mX10_init := ⟨wr6 _ (List.mem_of_getElem? (i := 1) rfl), by decide +kernel, ⟨by decide +kernel, by decide +kernel⟩, wr2 _ (List.mem_of_getElem? (i := 16) rfl), rfl⟩
set_option maxRecDepth 100000 in
theorem moX10_key : am_MO mX10_key := ⟨wr20 _ (List.mem_of_getElem? (i := 14) rfl), by decide +kernel, ⟨by decide +kernel, by decide +kernel⟩, wr2 _ (List.mem_of_getElem? (i := 16) rfl), rfl⟩
set_option maxRecDepth 100000 in
theorem moX10_keyOf : am_MO mX10_keyOf := ⟨wr11 _ (List.mem_of_getElem? (i := 4) rfl), by decide +kernel, ⟨by decide +kernel, by decide +kernel⟩, wr2 _ (List.mem_of_getElem? (i := 16) rfl), rfl⟩
set_option maxRecDepth 100000 in
theorem moX10_overtimeBeyond : am_MO mX10_overtimeBeyond := ⟨wr21 _ (List.mem_of_getElem? (i := 21) rfl), by decide +kernel, ⟨by decide +kernel, by decide +kernel⟩, wr2 _ (List.mem_of_getElem? (i := 16) rfl), rfl⟩
set_option maxRecDepth 100000 in
theorem moX11_acceptedTotal : am_MO mX11_acceptedTotal := ⟨wr32 _ (List.mem_of_getElem? (i := 3) rfl), by decide +kernel, ⟨by decide +kernel, by decide +kernel⟩, wr1 _ (List.mem_of_getElem? (i := 2) rfl), rfl⟩
set_option maxRecDepth 100000 in
theorem moX11_accepts : am_MO mX11_accepts := ⟨wr33 _ (List.mem_of_getElem? (i := 2) rfl), by decide +kernel, ⟨by decide +kernel, by decide +kernel⟩, wr1 _ (List.mem_of_getElem? (i := 2) rfl), rfl⟩
set_option maxRecDepth 100000 in
theorem moX11_again : am_MO mX11_again := ⟨wr30 _ (List.mem_of_getElem? (i := 4) rfl), by decide +kernel, ⟨by decide +kernel, by decide +kernel⟩, wr1 _ (List.mem_of_getElem? (i := 2) rfl), rfl⟩
set_option maxRecDepth 100000 in
theorem moX11_agrees : am_MO mX11_agrees := ⟨wr28 _ (List.mem_of_getElem? (i := 3) rfl), by decide +kernel, ⟨by decide +kernel, by decide +kernel⟩, wr1 _ (List.mem_of_getElem? (i := 2) rfl), rfl⟩
set_option maxRecDepth 100000 in
theorem moX11_back : am_MO mX11_back := ⟨wr24 _ (List.mem_of_getElem? (i := 5) rfl), by decide +kernel, ⟨by decide +kernel, by decide +kernel⟩, wr1 _ (List.mem_of_getElem? (i := 2) rfl), rfl⟩
set_option maxRecDepth 100000 in
theorem moX11_card : am_MO mX11_card := ⟨wr33 _ (List.mem_of_getElem? (i := 6) rfl), by decide +kernel, ⟨by decide +kernel, by decide +kernel⟩, wr1 _ (List.mem_of_getElem? (i := 2) rfl), rfl⟩
set_option maxRecDepth 100000 in
theorem moX11_control : am_MO mX11_control := ⟨wr14 _ (List.mem_of_getElem? (i := 17) rfl), by decide +kernel, ⟨by decide +kernel, by decide +kernel⟩, wr1 _ (List.mem_of_getElem? (i := 2) rfl), rfl⟩
set_option maxRecDepth 100000 in
theorem moX11_differs : am_MO mX11_differs := ⟨wr31 _ (List.mem_of_getElem? (i := 23) rfl), by decide +kernel, ⟨by decide +kernel, by decide +kernel⟩, wr1 _ (List.mem_of_getElem? (i := 2) rfl), rfl⟩
set_option maxRecDepth 100000 in
theorem moX11_faultOfCard : am_MO mX11_faultOfCard := ⟨wr19 _ (List.mem_of_getElem? (i := 12) rfl), by decide +kernel, ⟨by decide +kernel, by decide +kernel⟩, wr1 _ (List.mem_of_getElem? (i := 2) rfl), rfl⟩
set_option maxRecDepth 100000 in
theorem moX11_feedDeck : am_MO mX11_feedDeck := ⟨wr19 _ (List.mem_of_getElem? (i := 3) rfl), by decide +kernel, ⟨by decide +kernel, by decide +kernel⟩, wr1 _ (List.mem_of_getElem? (i := 2) rfl), rfl⟩
set_option maxRecDepth 100000 in
theorem moX11_fits : am_MO mX11_fits := ⟨wr11 _ (List.mem_of_getElem? (i := 23) rfl), by decide +kernel, ⟨by decide +kernel, by decide +kernel⟩, wr1 _ (List.mem_of_getElem? (i := 2) rfl), rfl⟩
set_option maxRecDepth 100000 in
theorem moX11_init : am_MO mX11_init := ⟨wr1 _ (List.mem_of_getElem? (i := 5) rfl), by decide +kernel, ⟨by decide +kernel, by decide +kernel⟩, wr1 _ (List.mem_of_getElem? (i := 2) rfl), rfl⟩
set_option maxRecDepth 100000 in
theorem moX11_isColumn : am_MO mX11_isColumn := ⟨wr11 _ (List.mem_of_getElem? (i := 1) rfl), by decide +kernel, ⟨by decide +kernel, by decide +kernel⟩, wr1 _ (List.mem_of_getElem? (i := 2) rfl), rfl⟩
set_option maxRecDepth 100000 in
theorem moX11_isControl : am_MO mX11_isControl := ⟨wr14 _ (List.mem_of_getElem? (i := 22) rfl), by decide +kernel, ⟨by decide +kernel, by decide +kernel⟩, wr1 _ (List.mem_of_getElem? (i := 2) rfl), rfl⟩
set_option maxRecDepth 100000 in
theorem moX11_isDeckInOrder : am_MO mX11_isDeckInOrder := ⟨wr9 _ (List.mem_of_getElem? (i := 3) rfl), by decide +kernel, ⟨by decide +kernel, by decide +kernel⟩, wr1 _ (List.mem_of_getElem? (i := 2) rfl), rfl⟩
set_option maxRecDepth 100000 in
theorem moX11_isField : am_MO mX11_isField := ⟨wr10 _ (List.mem_of_getElem? (i := 15) rfl), by decide +kernel, ⟨by decide +kernel, by decide +kernel⟩, wr1 _ (List.mem_of_getElem? (i := 2) rfl), rfl⟩
set_option maxRecDepth 100000 in
theorem moX11_isSetting : am_MO mX11_isSetting := ⟨wr14 _ (List.mem_of_getElem? (i := 9) rfl), by decide +kernel, ⟨by decide +kernel, by decide +kernel⟩, wr1 _ (List.mem_of_getElem? (i := 2) rfl), rfl⟩
set_option maxRecDepth 100000 in
theorem moX11_isWithin : am_MO mX11_isWithin := ⟨wr8 _ (List.mem_of_getElem? (i := 9) rfl), by decide +kernel, ⟨by decide +kernel, by decide +kernel⟩, wr1 _ (List.mem_of_getElem? (i := 2) rfl), rfl⟩
set_option maxRecDepth 100000 in
theorem moX11_keep : am_MO mX11_keep := ⟨wr24 _ (List.mem_of_getElem? (i := 0) rfl), by decide +kernel, ⟨by decide +kernel, by decide +kernel⟩, wr1 _ (List.mem_of_getElem? (i := 2) rfl), rfl⟩
set_option maxRecDepth 100000 in
theorem moX11_lay : am_MO mX11_lay := ⟨wr11 _ (List.mem_of_getElem? (i := 19) rfl), by decide +kernel, ⟨by decide +kernel, by decide +kernel⟩, wr1 _ (List.mem_of_getElem? (i := 2) rfl), rfl⟩
set_option maxRecDepth 100000 in
theorem moX11_line : am_MO mX11_line := ⟨wr30 _ (List.mem_of_getElem? (i := 8) rfl), by decide +kernel, ⟨by decide +kernel, by decide +kernel⟩, wr1 _ (List.mem_of_getElem? (i := 2) rfl), rfl⟩
set_option maxRecDepth 100000 in
theorem moX11_mark : am_MO mX11_mark := ⟨wr16 _ (List.mem_of_getElem? (i := 17) rfl), by decide +kernel, ⟨by decide +kernel, by decide +kernel⟩, wr1 _ (List.mem_of_getElem? (i := 2) rfl), rfl⟩
set_option maxRecDepth 100000 in
theorem moX11_mean : am_MO mX11_mean := ⟨wr29 _ (List.mem_of_getElem? (i := 23) rfl), by decide +kernel, ⟨by decide +kernel, by decide +kernel⟩, wr1 _ (List.mem_of_getElem? (i := 2) rfl), rfl⟩
set_option maxRecDepth 100000 in
theorem moX11_move : am_MO mX11_move := ⟨wr15 _ (List.mem_of_getElem? (i := 23) rfl), by decide +kernel, ⟨by decide +kernel, by decide +kernel⟩, wr1 _ (List.mem_of_getElem? (i := 2) rfl), rfl⟩
set_option maxRecDepth 100000 in
theorem moX11_pass : am_MO mX11_pass := ⟨wr16 _ (List.mem_of_getElem? (i := 23) rfl), by decide +kernel, ⟨by decide +kernel, by decide +kernel⟩, wr1 _ (List.mem_of_getElem? (i := 2) rfl), rfl⟩
set_option maxRecDepth 100000 in
theorem moX11_passByKeyColumns : am_MO mX11_passByKeyColumns := ⟨wr32 _ (List.mem_of_getElem? (i := 19) rfl), by decide +kernel, ⟨by decide +kernel, by decide +kernel⟩, wr1 _ (List.mem_of_getElem? (i := 2) rfl), rfl⟩
set_option maxRecDepth 100000 in
theorem moX11_passes : am_MO mX11_passes := ⟨wr32 _ (List.mem_of_getElem? (i := 15) rfl), by decide +kernel, ⟨by decide +kernel, by decide +kernel⟩, wr1 _ (List.mem_of_getElem? (i := 2) rfl), rfl⟩
set_option maxRecDepth 100000 in
theorem moX11_printJudged : am_MO mX11_printJudged := ⟨wr20 _ (List.mem_of_getElem? (i := 19) rfl), by decide +kernel, ⟨by decide +kernel, by decide +kernel⟩, wr1 _ (List.mem_of_getElem? (i := 2) rfl), rfl⟩
set_option maxRecDepth 100000 in
theorem moX11_punch : am_MO mX11_punch := ⟨wr25 _ (List.mem_of_getElem? (i := 8) rfl), by decide +kernel, ⟨by decide +kernel, by decide +kernel⟩, wr1 _ (List.mem_of_getElem? (i := 2) rfl), rfl⟩
set_option maxRecDepth 100000 in
theorem moX11_ranked : am_MO mX11_ranked := ⟨wr30 _ (List.mem_of_getElem? (i := 23) rfl), by decide +kernel, ⟨by decide +kernel, by decide +kernel⟩, wr1 _ (List.mem_of_getElem? (i := 2) rfl), rfl⟩
set_option maxRecDepth 100000 in
theorem moX11_reason : am_MO mX11_reason := ⟨wr30 _ (List.mem_of_getElem? (i := 14) rfl), by decide +kernel, ⟨by decide +kernel, by decide +kernel⟩, wr1 _ (List.mem_of_getElem? (i := 2) rfl), rfl⟩
set_option maxRecDepth 100000 in
theorem moX11_refusal : am_MO mX11_refusal := ⟨wr19 _ (List.mem_of_getElem? (i := 8) rfl), by decide +kernel, ⟨by decide +kernel, by decide +kernel⟩, wr1 _ (List.mem_of_getElem? (i := 2) rfl), rfl⟩
set_option maxRecDepth 100000 in
theorem moX11_repunch : am_MO mX11_repunch := ⟨wr16 _ (List.mem_of_getElem? (i := 7) rfl), by decide +kernel, ⟨by decide +kernel, by decide +kernel⟩, wr1 _ (List.mem_of_getElem? (i := 2) rfl), rfl⟩
set_option maxRecDepth 100000 in
theorem moX11_run : am_MO mX11_run := ⟨wr18 _ (List.mem_of_getElem? (i := 2) rfl), by decide +kernel, ⟨by decide +kernel, by decide +kernel⟩, wr1 _ (List.mem_of_getElem? (i := 2) rfl), rfl⟩
set_option maxRecDepth 100000 in
theorem moX11_set : am_MO mX11_set := ⟨wr14 _ (List.mem_of_getElem? (i := 4) rfl), by decide +kernel, ⟨by decide +kernel, by decide +kernel⟩, wr1 _ (List.mem_of_getElem? (i := 2) rfl), rfl⟩
set_option maxRecDepth 100000 in
theorem moX11_setting : am_MO mX11_setting := ⟨wr33 _ (List.mem_of_getElem? (i := 10) rfl), by decide +kernel, ⟨by decide +kernel, by decide +kernel⟩, wr1 _ (List.mem_of_getElem? (i := 2) rfl), rfl⟩
set_option maxRecDepth 100000 in
theorem moX11_sort : am_MO mX11_sort := ⟨wr17 _ (List.mem_of_getElem? (i := 21) rfl), by decide +kernel, ⟨by decide +kernel, by decide +kernel⟩, wr1 _ (List.mem_of_getElem? (i := 2) rfl), rfl⟩
set_option maxRecDepth 100000 in
theorem moX11_take : am_MO mX11_take := ⟨wr15 _ (List.mem_of_getElem? (i := 2) rfl), by decide +kernel, ⟨by decide +kernel, by decide +kernel⟩, wr1 _ (List.mem_of_getElem? (i := 2) rfl), rfl⟩
set_option maxRecDepth 100000 in
theorem moX11_told : am_MO mX11_told := ⟨wr7 _ (List.mem_of_getElem? (i := 4) rfl), by decide +kernel, ⟨by decide +kernel, by decide +kernel⟩, wr1 _ (List.mem_of_getElem? (i := 2) rfl), rfl⟩
set_option maxRecDepth 100000 in
theorem moX11_undo : am_MO mX11_undo := ⟨wr23 _ (List.mem_of_getElem? (i := 11) rfl), by decide +kernel, ⟨by decide +kernel, by decide +kernel⟩, wr1 _ (List.mem_of_getElem? (i := 2) rfl), rfl⟩
set_option maxRecDepth 100000 in
theorem moX11_wipe : am_MO mX11_wipe := ⟨wr24 _ (List.mem_of_getElem? (i := 12) rfl), by decide +kernel, ⟨by decide +kernel, by decide +kernel⟩, wr1 _ (List.mem_of_getElem? (i := 2) rfl), rfl⟩
set_option maxRecDepth 100000 in
theorem moX11_write : am_MO mX11_write := ⟨wr24 _ (List.mem_of_getElem? (i := 23) rfl), by decide +kernel, ⟨by decide +kernel, by decide +kernel⟩, wr1 _ (List.mem_of_getElem? (i := 2) rfl), rfl⟩
set_option maxRecDepth 100000 in
theorem moX1_at : am_MO mX1_at := ⟨wr9 _ (List.mem_of_getElem? (i := 23) rfl), by decide +kernel, ⟨by decide +kernel, by decide +kernel⟩, wr3 _ (List.mem_of_getElem? (i := 3) rfl), rfl⟩
set_option maxRecDepth 100000 in
theorem moX1_carry : am_MO mX1_carry := ⟨wr15 _ (List.mem_of_getElem? (i := 15) rfl), by decide +kernel, ⟨by decide +kernel, by decide +kernel⟩, wr3 _ (List.mem_of_getElem? (i := 3) rfl), rfl⟩
set_option maxRecDepth 100000 in
theorem moX1_copyFrom : am_MO mX1_copyFrom := ⟨wr13 _ (List.mem_of_getElem? (i := 7) rfl), by decide +kernel, ⟨by decide +kernel, by decide +kernel⟩, wr3 _ (List.mem_of_getElem? (i := 3) rfl), rfl⟩
set_option maxRecDepth 100000 in
theorem moX1_has : am_MO mX1_has := ⟨wr15 _ (List.mem_of_getElem? (i := 6) rfl), by decide +kernel, ⟨by decide +kernel, by decide +kernel⟩, wr3 _ (List.mem_of_getElem? (i := 3) rfl), rfl⟩
set_option maxRecDepth 100000 in
theorem moX1_init : am_MO mX1_init := ⟨wr3 _ (List.mem_of_getElem? (i := 20) rfl), by decide +kernel, ⟨by decide +kernel, by decide +kernel⟩, wr3 _ (List.mem_of_getElem? (i := 3) rfl), rfl⟩
set_option maxRecDepth 100000 in
theorem moX1_insertBlank : am_MO mX1_insertBlank := ⟨wr27 _ (List.mem_of_getElem? (i := 8) rfl), by decide +kernel, ⟨by decide +kernel, by decide +kernel⟩, wr3 _ (List.mem_of_getElem? (i := 3) rfl), rfl⟩
set_option maxRecDepth 100000 in
theorem moX1_put : am_MO mX1_put := ⟨wr15 _ (List.mem_of_getElem? (i := 19) rfl), by decide +kernel, ⟨by decide +kernel, by decide +kernel⟩, wr3 _ (List.mem_of_getElem? (i := 3) rfl), rfl⟩
set_option maxRecDepth 100000 in
theorem moX1_remove : am_MO mX1_remove := ⟨wr15 _ (List.mem_of_getElem? (i := 10) rfl), by decide +kernel, ⟨by decide +kernel, by decide +kernel⟩, wr3 _ (List.mem_of_getElem? (i := 3) rfl), rfl⟩
set_option maxRecDepth 100000 in
theorem moX1_size : am_MO mX1_size := ⟨wr7 _ (List.mem_of_getElem? (i := 13) rfl), by decide +kernel, ⟨by decide +kernel, by decide +kernel⟩, wr3 _ (List.mem_of_getElem? (i := 3) rfl), rfl⟩
set_option maxRecDepth 100000 in
theorem moX2_at : am_MO mX2_at := ⟨wr12 _ (List.mem_of_getElem? (i := 10) rfl), by decide +kernel, ⟨by decide +kernel, by decide +kernel⟩, wr1 _ (List.mem_of_getElem? (i := 15) rfl), rfl⟩
set_option maxRecDepth 100000 in
theorem moX2_init : am_MO mX2_init := ⟨wr4 _ (List.mem_of_getElem? (i := 19) rfl), by decide +kernel, ⟨by decide +kernel, by decide +kernel⟩, wr1 _ (List.mem_of_getElem? (i := 15) rfl), rfl⟩
set_option maxRecDepth 100000 in
theorem moX2_isEmpty : am_MO mX2_isEmpty := ⟨wr23 _ (List.mem_of_getElem? (i := 16) rfl), by decide +kernel, ⟨by decide +kernel, by decide +kernel⟩, wr1 _ (List.mem_of_getElem? (i := 15) rfl), rfl⟩
set_option maxRecDepth 100000 in
theorem moX2_record : am_MO mX2_record := ⟨wr12 _ (List.mem_of_getElem? (i := 5) rfl), by decide +kernel, ⟨by decide +kernel, by decide +kernel⟩, wr1 _ (List.mem_of_getElem? (i := 15) rfl), rfl⟩
set_option maxRecDepth 100000 in
theorem moX2_restoreInto : am_MO mX2_restoreInto := ⟨wr23 _ (List.mem_of_getElem? (i := 20) rfl), by decide +kernel, ⟨by decide +kernel, by decide +kernel⟩, wr1 _ (List.mem_of_getElem? (i := 15) rfl), rfl⟩
set_option maxRecDepth 100000 in
theorem moX2_size : am_MO mX2_size := ⟨wr11 _ (List.mem_of_getElem? (i := 14) rfl), by decide +kernel, ⟨by decide +kernel, by decide +kernel⟩, wr1 _ (List.mem_of_getElem? (i := 15) rfl), rfl⟩
set_option maxRecDepth 100000 in
theorem moX3_copyFrom : am_MO mX3_copyFrom := ⟨wr13 _ (List.mem_of_getElem? (i := 2) rfl), by decide +kernel, ⟨by decide +kernel, by decide +kernel⟩, wr2 _ (List.mem_of_getElem? (i := 23) rfl), rfl⟩
set_option maxRecDepth 100000 in
theorem moX3_dueOn : am_MO mX3_dueOn := ⟨wr20 _ (List.mem_of_getElem? (i := 6) rfl), by decide +kernel, ⟨by decide +kernel, by decide +kernel⟩, wr2 _ (List.mem_of_getElem? (i := 23) rfl), rfl⟩
set_option maxRecDepth 100000 in
theorem moX3_firstOf : am_MO mX3_firstOf := ⟨wr10 _ (List.mem_of_getElem? (i := 13) rfl), by decide +kernel, ⟨by decide +kernel, by decide +kernel⟩, wr2 _ (List.mem_of_getElem? (i := 23) rfl), rfl⟩
set_option maxRecDepth 100000 in
theorem moX3_init : am_MO mX3_init := ⟨wr3 _ (List.mem_of_getElem? (i := 14) rfl), by decide +kernel, ⟨by decide +kernel, by decide +kernel⟩, wr2 _ (List.mem_of_getElem? (i := 23) rfl), rfl⟩
set_option maxRecDepth 100000 in
theorem moX3_keyOn : am_MO mX3_keyOn := ⟨wr10 _ (List.mem_of_getElem? (i := 3) rfl), by decide +kernel, ⟨by decide +kernel, by decide +kernel⟩, wr2 _ (List.mem_of_getElem? (i := 23) rfl), rfl⟩
set_option maxRecDepth 100000 in
theorem moX3_place : am_MO mX3_place := ⟨wr14 _ (List.mem_of_getElem? (i := 0) rfl), by decide +kernel, ⟨by decide +kernel, by decide +kernel⟩, wr2 _ (List.mem_of_getElem? (i := 23) rfl), rfl⟩
set_option maxRecDepth 100000 in
theorem moX3_valueOn : am_MO mX3_valueOn := ⟨wr10 _ (List.mem_of_getElem? (i := 9) rfl), by decide +kernel, ⟨by decide +kernel, by decide +kernel⟩, wr2 _ (List.mem_of_getElem? (i := 23) rfl), rfl⟩
set_option maxRecDepth 100000 in
theorem moX3_weighedDigits : am_MO mX3_weighedDigits := ⟨wr20 _ (List.mem_of_getElem? (i := 10) rfl), by decide +kernel, ⟨by decide +kernel, by decide +kernel⟩, wr2 _ (List.mem_of_getElem? (i := 23) rfl), rfl⟩
set_option maxRecDepth 100000 in
theorem moX3_widthOf : am_MO mX3_widthOf := ⟨wr10 _ (List.mem_of_getElem? (i := 19) rfl), by decide +kernel, ⟨by decide +kernel, by decide +kernel⟩, wr2 _ (List.mem_of_getElem? (i := 23) rfl), rfl⟩
set_option maxRecDepth 100000 in
theorem moX4_accept : am_MO mX4_accept := ⟨wr21 _ (List.mem_of_getElem? (i := 3) rfl), by decide +kernel, ⟨by decide +kernel, by decide +kernel⟩, wr2 _ (List.mem_of_getElem? (i := 4) rfl), rfl⟩
set_option maxRecDepth 100000 in
theorem moX4_begin : am_MO mX4_begin := ⟨wr18 _ (List.mem_of_getElem? (i := 11) rfl), by decide +kernel, ⟨by decide +kernel, by decide +kernel⟩, wr2 _ (List.mem_of_getElem? (i := 4) rfl), rfl⟩
set_option maxRecDepth 100000 in
theorem moX4_breakBefore : am_MO mX4_breakBefore := ⟨wr21 _ (List.mem_of_getElem? (i := 9) rfl), by decide +kernel, ⟨by decide +kernel, by decide +kernel⟩, wr2 _ (List.mem_of_getElem? (i := 4) rfl), rfl⟩
set_option maxRecDepth 100000 in
theorem moX4_breakDepartment : am_MO mX4_breakDepartment := ⟨wr22 _ (List.mem_of_getElem? (i := 23) rfl), by decide +kernel, ⟨by decide +kernel, by decide +kernel⟩, wr2 _ (List.mem_of_getElem? (i := 4) rfl), rfl⟩
set_option maxRecDepth 100000 in
theorem moX4_breakGroup : am_MO mX4_breakGroup := ⟨wr22 _ (List.mem_of_getElem? (i := 19) rfl), by decide +kernel, ⟨by decide +kernel, by decide +kernel⟩, wr2 _ (List.mem_of_getElem? (i := 4) rfl), rfl⟩
set_option maxRecDepth 100000 in
theorem moX4_breakWorker : am_MO mX4_breakWorker := ⟨wr21 _ (List.mem_of_getElem? (i := 15) rfl), by decide +kernel, ⟨by decide +kernel, by decide +kernel⟩, wr2 _ (List.mem_of_getElem? (i := 4) rfl), rfl⟩
set_option maxRecDepth 100000 in
theorem moX4_end : am_MO mX4_end := ⟨wr23 _ (List.mem_of_getElem? (i := 7) rfl), by decide +kernel, ⟨by decide +kernel, by decide +kernel⟩, wr2 _ (List.mem_of_getElem? (i := 4) rfl), rfl⟩
set_option maxRecDepth 100000 in
theorem moX4_init : am_MO mX4_init := ⟨wr5 _ (List.mem_of_getElem? (i := 17) rfl), by decide +kernel, ⟨by decide +kernel, by decide +kernel⟩, wr2 _ (List.mem_of_getElem? (i := 4) rfl), rfl⟩
set_option maxRecDepth 100000 in
theorem moX5_begin : am_MO mX5_begin := ⟨wr18 _ (List.mem_of_getElem? (i := 6) rfl), by decide +kernel, ⟨by decide +kernel, by decide +kernel⟩, wr3 _ (List.mem_of_getElem? (i := 7) rfl), rfl⟩
set_option maxRecDepth 100000 in
theorem moX5_copyFrom : am_MO mX5_copyFrom := ⟨wr13 _ (List.mem_of_getElem? (i := 17) rfl), by decide +kernel, ⟨by decide +kernel, by decide +kernel⟩, wr3 _ (List.mem_of_getElem? (i := 7) rfl), rfl⟩
set_option maxRecDepth 100000 in
theorem moX5_hadCard : am_MO mX5_hadCard := ⟨wr8 _ (List.mem_of_getElem? (i := 23) rfl), by decide +kernel, ⟨by decide +kernel, by decide +kernel⟩, wr3 _ (List.mem_of_getElem? (i := 7) rfl), rfl⟩
set_option maxRecDepth 100000 in
theorem moX5_has : am_MO mX5_has := ⟨wr8 _ (List.mem_of_getElem? (i := 7) rfl), by decide +kernel, ⟨by decide +kernel, by decide +kernel⟩, wr3 _ (List.mem_of_getElem? (i := 7) rfl), rfl⟩
set_option maxRecDepth 100000 in
theorem moX5_init : am_MO mX5_init := ⟨wr4 _ (List.mem_of_getElem? (i := 14) rfl), by decide +kernel, ⟨by decide +kernel, by decide +kernel⟩, wr3 _ (List.mem_of_getElem? (i := 7) rfl), rfl⟩
set_option maxRecDepth 100000 in
theorem moX5_isCard : am_MO mX5_isCard := ⟨wr28 _ (List.mem_of_getElem? (i := 14) rfl), by decide +kernel, ⟨by decide +kernel, by decide +kernel⟩, wr3 _ (List.mem_of_getElem? (i := 7) rfl), rfl⟩
set_option maxRecDepth 100000 in
theorem moX5_isEmpty : am_MO mX5_isEmpty := ⟨wr7 _ (List.mem_of_getElem? (i := 18) rfl), by decide +kernel, ⟨by decide +kernel, by decide +kernel⟩, wr3 _ (List.mem_of_getElem? (i := 7) rfl), rfl⟩
set_option maxRecDepth 100000 in
theorem moX5_judge : am_MO mX5_judge := ⟨wr20 _ (List.mem_of_getElem? (i := 23) rfl), by decide +kernel, ⟨by decide +kernel, by decide +kernel⟩, wr3 _ (List.mem_of_getElem? (i := 7) rfl), rfl⟩
set_option maxRecDepth 100000 in
theorem moX5_lastLine : am_MO mX5_lastLine := ⟨wr7 _ (List.mem_of_getElem? (i := 23) rfl), by decide +kernel, ⟨by decide +kernel, by decide +kernel⟩, wr3 _ (List.mem_of_getElem? (i := 7) rfl), rfl⟩
set_option maxRecDepth 100000 in
theorem moX5_number : am_MO mX5_number := ⟨wr8 _ (List.mem_of_getElem? (i := 3) rfl), by decide +kernel, ⟨by decide +kernel, by decide +kernel⟩, wr3 _ (List.mem_of_getElem? (i := 7) rfl), rfl⟩
set_option maxRecDepth 100000 in
theorem moX5_print : am_MO mX5_print := ⟨wr22 _ (List.mem_of_getElem? (i := 6) rfl), by decide +kernel, ⟨by decide +kernel, by decide +kernel⟩, wr3 _ (List.mem_of_getElem? (i := 7) rfl), rfl⟩
set_option maxRecDepth 100000 in
theorem moX5_readCard : am_MO mX5_readCard := ⟨wr28 _ (List.mem_of_getElem? (i := 18) rfl), by decide +kernel, ⟨by decide +kernel, by decide +kernel⟩, wr3 _ (List.mem_of_getElem? (i := 7) rfl), rfl⟩
set_option maxRecDepth 100000 in
theorem moX5_reasonOf : am_MO mX5_reasonOf := ⟨wr8 _ (List.mem_of_getElem? (i := 18) rfl), by decide +kernel, ⟨by decide +kernel, by decide +kernel⟩, wr3 _ (List.mem_of_getElem? (i := 7) rfl), rfl⟩
set_option maxRecDepth 100000 in
theorem moX5_refusedCards : am_MO mX5_refusedCards := ⟨wr8 _ (List.mem_of_getElem? (i := 13) rfl), by decide +kernel, ⟨by decide +kernel, by decide +kernel⟩, wr3 _ (List.mem_of_getElem? (i := 7) rfl), rfl⟩
set_option maxRecDepth 100000 in
theorem moX5_sumOfWorkers : am_MO mX5_sumOfWorkers := ⟨wr32 _ (List.mem_of_getElem? (i := 7) rfl), by decide +kernel, ⟨by decide +kernel, by decide +kernel⟩, wr3 _ (List.mem_of_getElem? (i := 7) rfl), rfl⟩
set_option maxRecDepth 100000 in
theorem moX6_at : am_MO mX6_at := ⟨wr29 _ (List.mem_of_getElem? (i := 3) rfl), by decide +kernel, ⟨by decide +kernel, by decide +kernel⟩, wr2 _ (List.mem_of_getElem? (i := 8) rfl), rfl⟩
set_option maxRecDepth 100000 in
theorem moX6_init : am_MO mX6_init := ⟨wr6 _ (List.mem_of_getElem? (i := 5) rfl), by decide +kernel, ⟨by decide +kernel, by decide +kernel⟩, wr2 _ (List.mem_of_getElem? (i := 8) rfl), rfl⟩
set_option maxRecDepth 100000 in
theorem moX6_isAhead : am_MO mX6_isAhead := ⟨wr31 _ (List.mem_of_getElem? (i := 14) rfl), by decide +kernel, ⟨by decide +kernel, by decide +kernel⟩, wr2 _ (List.mem_of_getElem? (i := 8) rfl), rfl⟩
set_option maxRecDepth 100000 in
theorem moX6_numberOf : am_MO mX6_numberOf := ⟨wr29 _ (List.mem_of_getElem? (i := 15) rfl), by decide +kernel, ⟨by decide +kernel, by decide +kernel⟩, wr2 _ (List.mem_of_getElem? (i := 8) rfl), rfl⟩
set_option maxRecDepth 100000 in
theorem moX6_ofKey : am_MO mX6_ofKey := ⟨wr28 _ (List.mem_of_getElem? (i := 23) rfl), by decide +kernel, ⟨by decide +kernel, by decide +kernel⟩, wr2 _ (List.mem_of_getElem? (i := 8) rfl), rfl⟩
set_option maxRecDepth 100000 in
theorem moX6_put : am_MO mX6_put := ⟨wr31 _ (List.mem_of_getElem? (i := 18) rfl), by decide +kernel, ⟨by decide +kernel, by decide +kernel⟩, wr2 _ (List.mem_of_getElem? (i := 8) rfl), rfl⟩
set_option maxRecDepth 100000 in
theorem moX6_rank : am_MO mX6_rank := ⟨wr31 _ (List.mem_of_getElem? (i := 11) rfl), by decide +kernel, ⟨by decide +kernel, by decide +kernel⟩, wr2 _ (List.mem_of_getElem? (i := 8) rfl), rfl⟩
set_option maxRecDepth 100000 in
theorem moX6_reckon : am_MO mX6_reckon := ⟨wr28 _ (List.mem_of_getElem? (i := 7) rfl), by decide +kernel, ⟨by decide +kernel, by decide +kernel⟩, wr2 _ (List.mem_of_getElem? (i := 8) rfl), rfl⟩
set_option maxRecDepth 100000 in
theorem moX6_size : am_MO mX6_size := ⟨wr31 _ (List.mem_of_getElem? (i := 7) rfl), by decide +kernel, ⟨by decide +kernel, by decide +kernel⟩, wr2 _ (List.mem_of_getElem? (i := 8) rfl), rfl⟩
set_option maxRecDepth 100000 in
theorem moX6_sum : am_MO mX6_sum := ⟨wr29 _ (List.mem_of_getElem? (i := 11) rfl), by decide +kernel, ⟨by decide +kernel, by decide +kernel⟩, wr2 _ (List.mem_of_getElem? (i := 8) rfl), rfl⟩
set_option maxRecDepth 100000 in
theorem moX7_arrange : am_MO mX7_arrange := ⟨wr17 _ (List.mem_of_getElem? (i := 16) rfl), by decide +kernel, ⟨by decide +kernel, by decide +kernel⟩, wr2 _ (List.mem_of_getElem? (i := 0) rfl), rfl⟩
set_option maxRecDepth 100000 in
theorem moX7_begin : am_MO mX7_begin := ⟨wr9 _ (List.mem_of_getElem? (i := 8) rfl), by decide +kernel, ⟨by decide +kernel, by decide +kernel⟩, wr2 _ (List.mem_of_getElem? (i := 0) rfl), rfl⟩
set_option maxRecDepth 100000 in
theorem moX7_findStarts : am_MO mX7_findStarts := ⟨wr17 _ (List.mem_of_getElem? (i := 8) rfl), by decide +kernel, ⟨by decide +kernel, by decide +kernel⟩, wr2 _ (List.mem_of_getElem? (i := 0) rfl), rfl⟩
set_option maxRecDepth 100000 in
theorem moX7_init : am_MO mX7_init := ⟨wr5 _ (List.mem_of_getElem? (i := 9) rfl), by decide +kernel, ⟨by decide +kernel, by decide +kernel⟩, wr2 _ (List.mem_of_getElem? (i := 0) rfl), rfl⟩
set_option maxRecDepth 100000 in
theorem moX7_isInKeyOrder : am_MO mX7_isInKeyOrder := ⟨wr9 _ (List.mem_of_getElem? (i := 18) rfl), by decide +kernel, ⟨by decide +kernel, by decide +kernel⟩, wr2 _ (List.mem_of_getElem? (i := 0) rfl), rfl⟩
set_option maxRecDepth 100000 in
theorem moX7_passBy : am_MO mX7_passBy := ⟨wr17 _ (List.mem_of_getElem? (i := 3) rfl), by decide +kernel, ⟨by decide +kernel, by decide +kernel⟩, wr2 _ (List.mem_of_getElem? (i := 0) rfl), rfl⟩
set_option maxRecDepth 100000 in
theorem moX7_stackOf : am_MO mX7_stackOf := ⟨wr17 _ (List.mem_of_getElem? (i := 11) rfl), by decide +kernel, ⟨by decide +kernel, by decide +kernel⟩, wr2 _ (List.mem_of_getElem? (i := 0) rfl), rfl⟩
set_option maxRecDepth 100000 in
theorem moX8_copyFrom : am_MO mX8_copyFrom := ⟨wr12 _ (List.mem_of_getElem? (i := 18) rfl), by decide +kernel, ⟨by decide +kernel, by decide +kernel⟩, wr1 _ (List.mem_of_getElem? (i := 11) rfl), rfl⟩
set_option maxRecDepth 100000 in
theorem moX8_init : am_MO mX8_init := ⟨wr2 _ (List.mem_of_getElem? (i := 19) rfl), by decide +kernel, ⟨by decide +kernel, by decide +kernel⟩, wr1 _ (List.mem_of_getElem? (i := 11) rfl), rfl⟩
set_option maxRecDepth 100000 in
theorem moX8_settingOf : am_MO mX8_settingOf := ⟨wr14 _ (List.mem_of_getElem? (i := 13) rfl), by decide +kernel, ⟨by decide +kernel, by decide +kernel⟩, wr1 _ (List.mem_of_getElem? (i := 11) rfl), rfl⟩
set_option maxRecDepth 100000 in
theorem moX9_append : am_MO mX9_append := ⟨wr25 _ (List.mem_of_getElem? (i := 4) rfl), by decide +kernel, ⟨by decide +kernel, by decide +kernel⟩, wr1 _ (List.mem_of_getElem? (i := 20) rfl), rfl⟩
set_option maxRecDepth 100000 in
theorem moX9_at : am_MO mX9_at := ⟨wr25 _ (List.mem_of_getElem? (i := 21) rfl), by decide +kernel, ⟨by decide +kernel, by decide +kernel⟩, wr1 _ (List.mem_of_getElem? (i := 20) rfl), rfl⟩
set_option maxRecDepth 100000 in
theorem moX9_clear : am_MO mX9_clear := ⟨wr24 _ (List.mem_of_getElem? (i := 16) rfl), by decide +kernel, ⟨by decide +kernel, by decide +kernel⟩, wr1 _ (List.mem_of_getElem? (i := 20) rfl), rfl⟩
set_option maxRecDepth 100000 in
theorem moX9_countDigit : am_MO mX9_countDigit := ⟨wr26 _ (List.mem_of_getElem? (i := 16) rfl), by decide +kernel, ⟨by decide +kernel, by decide +kernel⟩, wr1 _ (List.mem_of_getElem? (i := 20) rfl), rfl⟩
set_option maxRecDepth 100000 in
theorem moX9_digitsOf : am_MO mX9_digitsOf := ⟨wr26 _ (List.mem_of_getElem? (i := 4) rfl), by decide +kernel, ⟨by decide +kernel, by decide +kernel⟩, wr1 _ (List.mem_of_getElem? (i := 20) rfl), rfl⟩
set_option maxRecDepth 100000 in
theorem moX9_endsBehindLetter : am_MO mX9_endsBehindLetter := ⟨wr27 _ (List.mem_of_getElem? (i := 4) rfl), by decide +kernel, ⟨by decide +kernel, by decide +kernel⟩, wr1 _ (List.mem_of_getElem? (i := 20) rfl), rfl⟩
set_option maxRecDepth 100000 in
theorem moX9_fieldOf : am_MO mX9_fieldOf := ⟨wr26 _ (List.mem_of_getElem? (i := 0) rfl), by decide +kernel, ⟨by decide +kernel, by decide +kernel⟩, wr1 _ (List.mem_of_getElem? (i := 20) rfl), rfl⟩
set_option maxRecDepth 100000 in
theorem moX9_hasWord : am_MO mX9_hasWord := ⟨wr27 _ (List.mem_of_getElem? (i := 0) rfl), by decide +kernel, ⟨by decide +kernel, by decide +kernel⟩, wr1 _ (List.mem_of_getElem? (i := 20) rfl), rfl⟩
set_option maxRecDepth 100000 in
theorem moX9_init : am_MO mX9_init := ⟨wr5 _ (List.mem_of_getElem? (i := 0) rfl), by decide +kernel, ⟨by decide +kernel, by decide +kernel⟩, wr1 _ (List.mem_of_getElem? (i := 20) rfl), rfl⟩
set_option maxRecDepth 100000 in
theorem moX9_isTextField : am_MO mX9_isTextField := ⟨wr26 _ (List.mem_of_getElem? (i := 7) rfl), by decide +kernel, ⟨by decide +kernel, by decide +kernel⟩, wr1 _ (List.mem_of_getElem? (i := 20) rfl), rfl⟩
set_option maxRecDepth 100000 in
theorem moX9_noteFault : am_MO mX9_noteFault := ⟨wr26 _ (List.mem_of_getElem? (i := 20) rfl), by decide +kernel, ⟨by decide +kernel, by decide +kernel⟩, wr1 _ (List.mem_of_getElem? (i := 20) rfl), rfl⟩
set_option maxRecDepth 100000 in
theorem moX9_punchNumber : am_MO mX9_punchNumber := ⟨wr27 _ (List.mem_of_getElem? (i := 17) rfl), by decide +kernel, ⟨by decide +kernel, by decide +kernel⟩, wr1 _ (List.mem_of_getElem? (i := 20) rfl), rfl⟩
set_option maxRecDepth 100000 in
theorem moX9_punchOn : am_MO mX9_punchOn := ⟨wr27 _ (List.mem_of_getElem? (i := 13) rfl), by decide +kernel, ⟨by decide +kernel, by decide +kernel⟩, wr1 _ (List.mem_of_getElem? (i := 20) rfl), rfl⟩
set_option maxRecDepth 100000 in
theorem moX9_readBetweenWords : am_MO mX9_readBetweenWords := ⟨wr25 _ (List.mem_of_getElem? (i := 17) rfl), by decide +kernel, ⟨by decide +kernel, by decide +kernel⟩, wr1 _ (List.mem_of_getElem? (i := 20) rfl), rfl⟩
set_option maxRecDepth 100000 in
theorem moX9_readInWord : am_MO mX9_readInWord := ⟨wr26 _ (List.mem_of_getElem? (i := 11) rfl), by decide +kernel, ⟨by decide +kernel, by decide +kernel⟩, wr1 _ (List.mem_of_getElem? (i := 20) rfl), rfl⟩
set_option maxRecDepth 100000 in
theorem moX9_readsAsCard : am_MO mX9_readsAsCard := ⟨wr25 _ (List.mem_of_getElem? (i := 12) rfl), by decide +kernel, ⟨by decide +kernel, by decide +kernel⟩, wr1 _ (List.mem_of_getElem? (i := 20) rfl), rfl⟩
set_option maxRecDepth 100000 in
theorem moX9_size : am_MO mX9_size := ⟨wr11 _ (List.mem_of_getElem? (i := 9) rfl), by decide +kernel, ⟨by decide +kernel, by decide +kernel⟩, wr1 _ (List.mem_of_getElem? (i := 20) rfl), rfl⟩
set_option maxRecDepth 100000 in
theorem cq0_15 : am_CP 0 (15, 0, 0, mX0_clear) := ⟨moX0_clear, fun _ => wr4 _ (List.mem_of_getElem? (i := 6) rfl), fun h => absurd h (by decide), fun _ => wr4 _ (List.mem_of_getElem? (i := 7) rfl), fun _ => wr4 _ (List.mem_of_getElem? (i := 8) rfl), fun h => absurd h (by decide), fun h => absurd h (by decide), by decide +kernel⟩
set_option maxRecDepth 100000 in
theorem cq0_26 : am_CP 0 (26, 4, 1, mX11_isColumn) := ⟨moX11_isColumn, fun h => absurd h (by decide), fun _ => List.mem_of_getElem? (i := 12) rfl, fun h => absurd h (by decide), fun h => absurd h (by decide), fun _ => wr11 _ (List.mem_of_getElem? (i := 0) rfl), fun h => absurd h (by decide), by decide +kernel⟩
set_option maxRecDepth 100000 in
theorem cq0_30 : am_CP 0 (30, 0, 1, mX0_copyFrom) := ⟨moX0_copyFrom, fun _ => wr19 _ (List.mem_of_getElem? (i := 18) rfl), fun h => absurd h (by decide), fun _ => wr13 _ (List.mem_of_getElem? (i := 10) rfl), fun _ => wr13 _ (List.mem_of_getElem? (i := 11) rfl), fun h => absurd h (by decide), fun h => absurd h (by decide), by decide +kernel⟩
set_option maxRecDepth 100000 in
theorem cq0_40 : am_CP 0 (40, 0, 2, mX0_show) := ⟨moX0_show, fun _ => wr19 _ (List.mem_of_getElem? (i := 19) rfl), fun h => absurd h (by decide), fun _ => wr16 _ (List.mem_of_getElem? (i := 11) rfl), fun _ => wr16 _ (List.mem_of_getElem? (i := 12) rfl), fun h => absurd h (by decide), fun h => absurd h (by decide), by decide +kernel⟩
set_option maxRecDepth 100000 in
theorem cq1_17 : am_CP 1 (17, 2, 0, mX0_init) := ⟨moX0_init, fun _ => wr4 _ (List.mem_of_getElem? (i := 1) rfl), fun h => absurd h (by decide), fun _ => wr4 _ (List.mem_of_getElem? (i := 2) rfl), fun h => absurd h (by decide), fun h => absurd h (by decide), fun _ => ⟨rfl, rfl⟩, by decide +kernel⟩
set_option maxRecDepth 100000 in
theorem cq1_26 : am_CP 1 (26, 0, 1, mX1_at) := ⟨moX1_at, fun _ => wr13 _ (List.mem_of_getElem? (i := 8) rfl), fun h => absurd h (by decide), fun _ => wr9 _ (List.mem_of_getElem? (i := 21) rfl), fun _ => wr9 _ (List.mem_of_getElem? (i := 22) rfl), fun h => absurd h (by decide), fun h => absurd h (by decide), by decide +kernel⟩
set_option maxRecDepth 100000 in
theorem cq1_30 : am_CP 1 (30, 0, 0, mX0_clear) := ⟨moX0_clear, fun _ => wr27 _ (List.mem_of_getElem? (i := 9) rfl), fun h => absurd h (by decide), fun _ => wr4 _ (List.mem_of_getElem? (i := 7) rfl), fun _ => wr4 _ (List.mem_of_getElem? (i := 8) rfl), fun h => absurd h (by decide), fun h => absurd h (by decide), by decide +kernel⟩
set_option maxRecDepth 100000 in
theorem cq1_33 : am_CP 1 (33, 0, 2, mX1_carry) := ⟨moX1_carry, fun _ => wr15 _ (List.mem_of_getElem? (i := 12) rfl), fun h => absurd h (by decide), fun _ => wr15 _ (List.mem_of_getElem? (i := 13) rfl), fun _ => wr15 _ (List.mem_of_getElem? (i := 14) rfl), fun h => absurd h (by decide), fun h => absurd h (by decide), by decide +kernel⟩
set_option maxRecDepth 100000 in
theorem cq1_37 : am_CP 1 (37, 0, 1, mX1_has) := ⟨moX1_has, fun _ => wr15 _ (List.mem_of_getElem? (i := 11) rfl), fun h => absurd h (by decide), fun _ => wr15 _ (List.mem_of_getElem? (i := 4) rfl), fun _ => wr15 _ (List.mem_of_getElem? (i := 5) rfl), fun h => absurd h (by decide), fun h => absurd h (by decide), by decide +kernel⟩
set_option maxRecDepth 100000 in
theorem cq1_41 : am_CP 1 (41, 0, 2, mX1_put) := ⟨moX1_put, fun _ => wr15 _ (List.mem_of_getElem? (i := 16) rfl), fun h => absurd h (by decide), fun _ => wr15 _ (List.mem_of_getElem? (i := 17) rfl), fun _ => wr15 _ (List.mem_of_getElem? (i := 18) rfl), fun h => absurd h (by decide), fun h => absurd h (by decide), by decide +kernel⟩
set_option maxRecDepth 100000 in
theorem cq1_45 : am_CP 1 (45, 0, 1, mX0_copyFrom) := ⟨moX0_copyFrom, fun _ => wr13 _ (List.mem_of_getElem? (i := 9) rfl), fun h => absurd h (by decide), fun _ => wr13 _ (List.mem_of_getElem? (i := 10) rfl), fun _ => wr13 _ (List.mem_of_getElem? (i := 11) rfl), fun h => absurd h (by decide), fun h => absurd h (by decide), by decide +kernel⟩
set_option maxRecDepth 100000 in
theorem cq2_21 : am_CP 2 (21, 0, 1, mX2_at) := ⟨moX2_at, fun _ => wr12 _ (List.mem_of_getElem? (i := 7) rfl), fun h => absurd h (by decide), fun _ => wr12 _ (List.mem_of_getElem? (i := 8) rfl), fun _ => wr12 _ (List.mem_of_getElem? (i := 9) rfl), fun h => absurd h (by decide), fun h => absurd h (by decide), by decide +kernel⟩
set_option maxRecDepth 100000 in
theorem cq2_25 : am_CP 2 (25, 0, 1, mX8_copyFrom) := ⟨moX8_copyFrom, fun _ => wr12 _ (List.mem_of_getElem? (i := 15) rfl), fun h => absurd h (by decide), fun _ => wr12 _ (List.mem_of_getElem? (i := 16) rfl), fun _ => wr12 _ (List.mem_of_getElem? (i := 17) rfl), fun h => absurd h (by decide), fun h => absurd h (by decide), by decide +kernel⟩
set_option maxRecDepth 100000 in
theorem cq2_32 : am_CP 2 (32, 1, 2, mJ9_floorMod_7cf53) := ⟨moJ9_floorMod_7cf53, fun _ => wr12 _ (List.mem_of_getElem? (i := 11) rfl), fun h => absurd h (by decide), fun h => absurd h (by decide), fun h => absurd h (by decide), fun _ => wr12 _ (List.mem_of_getElem? (i := 12) rfl), fun h => absurd h (by decide), by decide +kernel⟩
set_option maxRecDepth 100000 in
theorem cq2_38 : am_CP 2 (38, 5, 0, mX8_init) := ⟨moX8_init, fun h => absurd h (by decide), fun _ => List.mem_of_getElem? (i := 13) rfl, fun _ => wr2 _ (List.mem_of_getElem? (i := 18) rfl), fun h => absurd h (by decide), fun h => absurd h (by decide), fun _ => ⟨rfl, rfl⟩, by decide +kernel⟩
set_option maxRecDepth 100000 in
theorem cq3_18 : am_CP 3 (18, 4, 1, mX11_isField) := ⟨moX11_isField, fun h => absurd h (by decide), fun _ => List.mem_of_getElem? (i := 11) rfl, fun h => absurd h (by decide), fun h => absurd h (by decide), fun _ => wr10 _ (List.mem_of_getElem? (i := 14) rfl), fun h => absurd h (by decide), by decide +kernel⟩
set_option maxRecDepth 100000 in
theorem cq3_22 : am_CP 3 (22, 0, 1, mX3_firstOf) := ⟨moX3_firstOf, fun _ => wr10 _ (List.mem_of_getElem? (i := 10) rfl), fun h => absurd h (by decide), fun _ => wr10 _ (List.mem_of_getElem? (i := 11) rfl), fun _ => wr10 _ (List.mem_of_getElem? (i := 12) rfl), fun h => absurd h (by decide), fun h => absurd h (by decide), by decide +kernel⟩
set_option maxRecDepth 100000 in
theorem cq3_26 : am_CP 3 (26, 0, 1, mX3_widthOf) := ⟨moX3_widthOf, fun _ => wr10 _ (List.mem_of_getElem? (i := 16) rfl), fun h => absurd h (by decide), fun _ => wr10 _ (List.mem_of_getElem? (i := 17) rfl), fun _ => wr10 _ (List.mem_of_getElem? (i := 18) rfl), fun h => absurd h (by decide), fun h => absurd h (by decide), by decide +kernel⟩
set_option maxRecDepth 100000 in
theorem cq3_29 : am_CP 3 (29, 0, 1, mX0_shows) := ⟨moX0_shows, fun _ => wr10 _ (List.mem_of_getElem? (i := 20) rfl), fun h => absurd h (by decide), fun _ => wr10 _ (List.mem_of_getElem? (i := 21) rfl), fun _ => wr10 _ (List.mem_of_getElem? (i := 22) rfl), fun h => absurd h (by decide), fun h => absurd h (by decide), by decide +kernel⟩
set_option maxRecDepth 100000 in
theorem cq3_35 : am_CP 3 (35, 0, 2, mX3_weighedDigits) := ⟨moX3_weighedDigits, fun _ => wr20 _ (List.mem_of_getElem? (i := 7) rfl), fun h => absurd h (by decide), fun _ => wr20 _ (List.mem_of_getElem? (i := 8) rfl), fun _ => wr20 _ (List.mem_of_getElem? (i := 9) rfl), fun h => absurd h (by decide), fun h => absurd h (by decide), by decide +kernel⟩
set_option maxRecDepth 100000 in
theorem cq3_39 : am_CP 3 (39, 0, 2, mX3_valueOn) := ⟨moX3_valueOn, fun _ => wr10 _ (List.mem_of_getElem? (i := 6) rfl), fun h => absurd h (by decide), fun _ => wr10 _ (List.mem_of_getElem? (i := 7) rfl), fun _ => wr10 _ (List.mem_of_getElem? (i := 8) rfl), fun h => absurd h (by decide), fun h => absurd h (by decide), by decide +kernel⟩
set_option maxRecDepth 100000 in
theorem cq3_44 : am_CP 3 (44, 1, 3, mX10_keyOf) := ⟨moX10_keyOf, fun _ => wr11 _ (List.mem_of_getElem? (i := 2) rfl), fun h => absurd h (by decide), fun h => absurd h (by decide), fun h => absurd h (by decide), fun _ => wr11 _ (List.mem_of_getElem? (i := 3) rfl), fun h => absurd h (by decide), by decide +kernel⟩
set_option maxRecDepth 100000 in
theorem cq4_11 : am_CP 4 (11, 5, 0, mX10_init) := ⟨moX10_init, fun h => absurd h (by decide), fun _ => List.mem_of_getElem? (i := 7) rfl, fun _ => wr6 _ (List.mem_of_getElem? (i := 0) rfl), fun h => absurd h (by decide), fun h => absurd h (by decide), fun _ => ⟨rfl, rfl⟩, by decide +kernel⟩
set_option maxRecDepth 100000 in
theorem cq4_27 : am_CP 4 (27, 0, 0, mX10_clear) := ⟨moX10_clear, fun _ => wr18 _ (List.mem_of_getElem? (i := 12) rfl), fun h => absurd h (by decide), fun _ => wr18 _ (List.mem_of_getElem? (i := 13) rfl), fun _ => wr18 _ (List.mem_of_getElem? (i := 14) rfl), fun h => absurd h (by decide), fun h => absurd h (by decide), by decide +kernel⟩
set_option maxRecDepth 100000 in
theorem cq4_34 : am_CP 4 (34, 0, 0, mX10_key) := ⟨moX10_key, fun _ => wr21 _ (List.mem_of_getElem? (i := 5) rfl), fun h => absurd h (by decide), fun _ => wr20 _ (List.mem_of_getElem? (i := 12) rfl), fun _ => wr20 _ (List.mem_of_getElem? (i := 13) rfl), fun h => absurd h (by decide), fun h => absurd h (by decide), by decide +kernel⟩
set_option maxRecDepth 100000 in
theorem cq4_38 : am_CP 4 (38, 0, 2, mX4_breakBefore) := ⟨moX4_breakBefore, fun _ => wr21 _ (List.mem_of_getElem? (i := 6) rfl), fun h => absurd h (by decide), fun _ => wr21 _ (List.mem_of_getElem? (i := 7) rfl), fun _ => wr21 _ (List.mem_of_getElem? (i := 8) rfl), fun h => absurd h (by decide), fun h => absurd h (by decide), by decide +kernel⟩
set_option maxRecDepth 100000 in
theorem cq4_42 : am_CP 4 (42, 0, 3, mX5_print) := ⟨moX5_print, fun _ => wr22 _ (List.mem_of_getElem? (i := 3) rfl), fun h => absurd h (by decide), fun _ => wr22 _ (List.mem_of_getElem? (i := 4) rfl), fun _ => wr22 _ (List.mem_of_getElem? (i := 5) rfl), fun h => absurd h (by decide), fun h => absurd h (by decide), by decide +kernel⟩
set_option maxRecDepth 100000 in
theorem cq4_48 : am_CP 4 (48, 0, 1, mX10_addCard) := ⟨moX10_addCard, fun _ => wr23 _ (List.mem_of_getElem? (i := 0) rfl), fun h => absurd h (by decide), fun _ => wr23 _ (List.mem_of_getElem? (i := 1) rfl), fun _ => wr23 _ (List.mem_of_getElem? (i := 2) rfl), fun h => absurd h (by decide), fun h => absurd h (by decide), by decide +kernel⟩
set_option maxRecDepth 100000 in
theorem cq4_52 : am_CP 4 (52, 0, 1, mX4_breakWorker) := ⟨moX4_breakWorker, fun _ => wr21 _ (List.mem_of_getElem? (i := 12) rfl), fun h => absurd h (by decide), fun _ => wr21 _ (List.mem_of_getElem? (i := 13) rfl), fun _ => wr21 _ (List.mem_of_getElem? (i := 14) rfl), fun h => absurd h (by decide), fun h => absurd h (by decide), by decide +kernel⟩
set_option maxRecDepth 100000 in
theorem cq4_56 : am_CP 4 (56, 0, 1, mX4_breakGroup) := ⟨moX4_breakGroup, fun _ => wr22 _ (List.mem_of_getElem? (i := 16) rfl), fun h => absurd h (by decide), fun _ => wr22 _ (List.mem_of_getElem? (i := 17) rfl), fun _ => wr22 _ (List.mem_of_getElem? (i := 18) rfl), fun h => absurd h (by decide), fun h => absurd h (by decide), by decide +kernel⟩
set_option maxRecDepth 100000 in
theorem cq4_59 : am_CP 4 (59, 0, 1, mX4_breakDepartment) := ⟨moX4_breakDepartment, fun _ => wr22 _ (List.mem_of_getElem? (i := 20) rfl), fun h => absurd h (by decide), fun _ => wr22 _ (List.mem_of_getElem? (i := 21) rfl), fun _ => wr22 _ (List.mem_of_getElem? (i := 22) rfl), fun h => absurd h (by decide), fun h => absurd h (by decide), by decide +kernel⟩
set_option maxRecDepth 100000 in
theorem cq4_70 : am_CP 4 (70, 0, 1, mX10_overtimeBeyond) := ⟨moX10_overtimeBeyond, fun _ => wr21 _ (List.mem_of_getElem? (i := 18) rfl), fun h => absurd h (by decide), fun _ => wr21 _ (List.mem_of_getElem? (i := 19) rfl), fun _ => wr21 _ (List.mem_of_getElem? (i := 20) rfl), fun h => absurd h (by decide), fun h => absurd h (by decide), by decide +kernel⟩
set_option maxRecDepth 100000 in
theorem cq4_74 : am_CP 4 (74, 0, 1, mX10_addOvertime) := ⟨moX10_addOvertime, fun _ => wr21 _ (List.mem_of_getElem? (i := 23) rfl), fun h => absurd h (by decide), fun _ => wr22 _ (List.mem_of_getElem? (i := 0) rfl), fun _ => wr22 _ (List.mem_of_getElem? (i := 1) rfl), fun h => absurd h (by decide), fun h => absurd h (by decide), by decide +kernel⟩
set_option maxRecDepth 100000 in
theorem cq5_34 : am_CP 5 (34, 0, 1, mX5_hadCard) := ⟨moX5_hadCard, fun _ => wr8 _ (List.mem_of_getElem? (i := 20) rfl), fun h => absurd h (by decide), fun _ => wr8 _ (List.mem_of_getElem? (i := 21) rfl), fun _ => wr8 _ (List.mem_of_getElem? (i := 22) rfl), fun h => absurd h (by decide), fun h => absurd h (by decide), by decide +kernel⟩
set_option maxRecDepth 100000 in
theorem cq5_39 : am_CP 5 (39, 0, 1, mX5_reasonOf) := ⟨moX5_reasonOf, fun _ => wr8 _ (List.mem_of_getElem? (i := 15) rfl), fun h => absurd h (by decide), fun _ => wr8 _ (List.mem_of_getElem? (i := 16) rfl), fun _ => wr8 _ (List.mem_of_getElem? (i := 17) rfl), fun h => absurd h (by decide), fun h => absurd h (by decide), by decide +kernel⟩
set_option maxRecDepth 100000 in
theorem cq5_43 : am_CP 5 (43, 4, 3, mX11_isWithin) := ⟨moX11_isWithin, fun h => absurd h (by decide), fun _ => List.mem_of_getElem? (i := 10) rfl, fun h => absurd h (by decide), fun h => absurd h (by decide), fun _ => wr8 _ (List.mem_of_getElem? (i := 8) rfl), fun h => absurd h (by decide), by decide +kernel⟩
set_option maxRecDepth 100000 in
theorem cq5_47 : am_CP 5 (47, 0, 1, mX5_has) := ⟨moX5_has, fun _ => wr8 _ (List.mem_of_getElem? (i := 4) rfl), fun h => absurd h (by decide), fun _ => wr8 _ (List.mem_of_getElem? (i := 5) rfl), fun _ => wr8 _ (List.mem_of_getElem? (i := 6) rfl), fun h => absurd h (by decide), fun h => absurd h (by decide), by decide +kernel⟩
set_option maxRecDepth 100000 in
theorem cq5_50 : am_CP 5 (50, 0, 2, mX5_number) := ⟨moX5_number, fun _ => wr8 _ (List.mem_of_getElem? (i := 0) rfl), fun h => absurd h (by decide), fun _ => wr8 _ (List.mem_of_getElem? (i := 1) rfl), fun _ => wr8 _ (List.mem_of_getElem? (i := 2) rfl), fun h => absurd h (by decide), fun h => absurd h (by decide), by decide +kernel⟩
set_option maxRecDepth 100000 in
theorem cq5_53 : am_CP 5 (53, 0, 1, mX5_isCard) := ⟨moX5_isCard, fun _ => wr32 _ (List.mem_of_getElem? (i := 8) rfl), fun h => absurd h (by decide), fun _ => wr28 _ (List.mem_of_getElem? (i := 12) rfl), fun _ => wr28 _ (List.mem_of_getElem? (i := 13) rfl), fun h => absurd h (by decide), fun h => absurd h (by decide), by decide +kernel⟩
set_option maxRecDepth 100000 in
theorem cq6_17 : am_CP 6 (17, 5, 0, mX10_init) := ⟨moX10_init, fun h => absurd h (by decide), fun _ => List.mem_of_getElem? (i := 8) rfl, fun _ => wr6 _ (List.mem_of_getElem? (i := 0) rfl), fun h => absurd h (by decide), fun h => absurd h (by decide), fun _ => ⟨rfl, rfl⟩, by decide +kernel⟩
set_option maxRecDepth 100000 in
theorem cq6_34 : am_CP 6 (34, 0, 1, mX5_isCard) := ⟨moX5_isCard, fun _ => wr28 _ (List.mem_of_getElem? (i := 11) rfl), fun h => absurd h (by decide), fun _ => wr28 _ (List.mem_of_getElem? (i := 12) rfl), fun _ => wr28 _ (List.mem_of_getElem? (i := 13) rfl), fun h => absurd h (by decide), fun h => absurd h (by decide), by decide +kernel⟩
set_option maxRecDepth 100000 in
theorem cq6_38 : am_CP 6 (38, 0, 2, mX5_readCard) := ⟨moX5_readCard, fun _ => wr28 _ (List.mem_of_getElem? (i := 15) rfl), fun h => absurd h (by decide), fun _ => wr28 _ (List.mem_of_getElem? (i := 16) rfl), fun _ => wr28 _ (List.mem_of_getElem? (i := 17) rfl), fun h => absurd h (by decide), fun h => absurd h (by decide), by decide +kernel⟩
set_option maxRecDepth 100000 in
theorem cq6_42 : am_CP 6 (42, 0, 0, mX10_key) := ⟨moX10_key, fun _ => wr28 _ (List.mem_of_getElem? (i := 19) rfl), fun h => absurd h (by decide), fun _ => wr20 _ (List.mem_of_getElem? (i := 12) rfl), fun _ => wr20 _ (List.mem_of_getElem? (i := 13) rfl), fun h => absurd h (by decide), fun h => absurd h (by decide), by decide +kernel⟩
set_option maxRecDepth 100000 in
theorem cq6_46 : am_CP 6 (46, 0, 1, mX6_ofKey) := ⟨moX6_ofKey, fun _ => wr28 _ (List.mem_of_getElem? (i := 20) rfl), fun h => absurd h (by decide), fun _ => wr28 _ (List.mem_of_getElem? (i := 21) rfl), fun _ => wr28 _ (List.mem_of_getElem? (i := 22) rfl), fun h => absurd h (by decide), fun h => absurd h (by decide), by decide +kernel⟩
set_option maxRecDepth 100000 in
theorem cq6_50 : am_CP 6 (50, 0, 1, mX10_addCard) := ⟨moX10_addCard, fun _ => wr29 _ (List.mem_of_getElem? (i := 5) rfl), fun h => absurd h (by decide), fun _ => wr23 _ (List.mem_of_getElem? (i := 1) rfl), fun _ => wr23 _ (List.mem_of_getElem? (i := 2) rfl), fun h => absurd h (by decide), fun h => absurd h (by decide), by decide +kernel⟩
set_option maxRecDepth 100000 in
theorem cq6_54 : am_CP 6 (54, 0, 1, mX6_at) := ⟨moX6_at, fun _ => wr29 _ (List.mem_of_getElem? (i := 0) rfl), fun h => absurd h (by decide), fun _ => wr29 _ (List.mem_of_getElem? (i := 1) rfl), fun _ => wr29 _ (List.mem_of_getElem? (i := 2) rfl), fun h => absurd h (by decide), fun h => absurd h (by decide), by decide +kernel⟩
set_option maxRecDepth 100000 in
theorem cq6_61 : am_CP 6 (61, 0, 1, mX10_overtimeBeyond) := ⟨moX10_overtimeBeyond, fun _ => wr29 _ (List.mem_of_getElem? (i := 6) rfl), fun h => absurd h (by decide), fun _ => wr21 _ (List.mem_of_getElem? (i := 19) rfl), fun _ => wr21 _ (List.mem_of_getElem? (i := 20) rfl), fun h => absurd h (by decide), fun h => absurd h (by decide), by decide +kernel⟩
set_option maxRecDepth 100000 in
theorem cq6_65 : am_CP 6 (65, 0, 1, mX10_addOvertime) := ⟨moX10_addOvertime, fun _ => wr29 _ (List.mem_of_getElem? (i := 7) rfl), fun h => absurd h (by decide), fun _ => wr22 _ (List.mem_of_getElem? (i := 0) rfl), fun _ => wr22 _ (List.mem_of_getElem? (i := 1) rfl), fun h => absurd h (by decide), fun h => absurd h (by decide), by decide +kernel⟩
set_option maxRecDepth 100000 in
theorem cq6_69 : am_CP 6 (69, 0, 0, mX10_clear) := ⟨moX10_clear, fun _ => wr29 _ (List.mem_of_getElem? (i := 4) rfl), fun h => absurd h (by decide), fun _ => wr18 _ (List.mem_of_getElem? (i := 13) rfl), fun _ => wr18 _ (List.mem_of_getElem? (i := 14) rfl), fun h => absurd h (by decide), fun h => absurd h (by decide), by decide +kernel⟩
set_option maxRecDepth 100000 in
theorem cq6_75 : am_CP 6 (75, 1, 2, mX6_numberOf) := ⟨moX6_numberOf, fun _ => wr29 _ (List.mem_of_getElem? (i := 13) rfl), fun h => absurd h (by decide), fun h => absurd h (by decide), fun h => absurd h (by decide), fun _ => wr29 _ (List.mem_of_getElem? (i := 14) rfl), fun h => absurd h (by decide), by decide +kernel⟩
set_option maxRecDepth 100000 in
theorem cq6_91 : am_CP 6 (91, 1, 2, mX6_isAhead) := ⟨moX6_isAhead, fun _ => wr31 _ (List.mem_of_getElem? (i := 12) rfl), fun h => absurd h (by decide), fun h => absurd h (by decide), fun h => absurd h (by decide), fun _ => wr31 _ (List.mem_of_getElem? (i := 13) rfl), fun h => absurd h (by decide), by decide +kernel⟩
set_option maxRecDepth 100000 in
theorem cq6_95 : am_CP 6 (95, 0, 2, mX6_put) := ⟨moX6_put, fun _ => wr31 _ (List.mem_of_getElem? (i := 15) rfl), fun h => absurd h (by decide), fun _ => wr31 _ (List.mem_of_getElem? (i := 16) rfl), fun _ => wr31 _ (List.mem_of_getElem? (i := 17) rfl), fun h => absurd h (by decide), fun h => absurd h (by decide), by decide +kernel⟩
set_option maxRecDepth 100000 in
theorem cq7_27 : am_CP 7 (27, 0, 0, mX1_size) := ⟨moX1_size, fun _ => wr9 _ (List.mem_of_getElem? (i := 14) rfl), fun h => absurd h (by decide), fun _ => wr7 _ (List.mem_of_getElem? (i := 11) rfl), fun _ => wr7 _ (List.mem_of_getElem? (i := 12) rfl), fun h => absurd h (by decide), fun h => absurd h (by decide), by decide +kernel⟩
set_option maxRecDepth 100000 in
theorem cq7_43 : am_CP 7 (43, 0, 2, mX7_findStarts) := ⟨moX7_findStarts, fun _ => wr17 _ (List.mem_of_getElem? (i := 5) rfl), fun h => absurd h (by decide), fun _ => wr17 _ (List.mem_of_getElem? (i := 6) rfl), fun _ => wr17 _ (List.mem_of_getElem? (i := 7) rfl), fun h => absurd h (by decide), fun h => absurd h (by decide), by decide +kernel⟩
set_option maxRecDepth 100000 in
theorem cq7_47 : am_CP 7 (47, 0, 1, mX1_at) := ⟨moX1_at, fun _ => wr9 _ (List.mem_of_getElem? (i := 20) rfl), fun h => absurd h (by decide), fun _ => wr9 _ (List.mem_of_getElem? (i := 21) rfl), fun _ => wr9 _ (List.mem_of_getElem? (i := 22) rfl), fun h => absurd h (by decide), fun h => absurd h (by decide), by decide +kernel⟩
set_option maxRecDepth 100000 in
theorem cq7_51 : am_CP 7 (51, 1, 2, mX7_stackOf) := ⟨moX7_stackOf, fun _ => wr17 _ (List.mem_of_getElem? (i := 9) rfl), fun h => absurd h (by decide), fun h => absurd h (by decide), fun h => absurd h (by decide), fun _ => wr17 _ (List.mem_of_getElem? (i := 10) rfl), fun h => absurd h (by decide), by decide +kernel⟩
set_option maxRecDepth 100000 in
theorem cq7_61 : am_CP 7 (61, 0, 1, mX0_shows) := ⟨moX0_shows, fun _ => wr17 _ (List.mem_of_getElem? (i := 12) rfl), fun h => absurd h (by decide), fun _ => wr10 _ (List.mem_of_getElem? (i := 21) rfl), fun _ => wr10 _ (List.mem_of_getElem? (i := 22) rfl), fun h => absurd h (by decide), fun h => absurd h (by decide), by decide +kernel⟩
set_option maxRecDepth 100000 in
theorem cq7_65 : am_CP 7 (65, 4, 3, mX11_isWithin) := ⟨moX11_isWithin, fun h => absurd h (by decide), fun _ => List.mem_of_getElem? (i := 15) rfl, fun h => absurd h (by decide), fun h => absurd h (by decide), fun _ => wr8 _ (List.mem_of_getElem? (i := 8) rfl), fun h => absurd h (by decide), by decide +kernel⟩
set_option maxRecDepth 100000 in
theorem cq7_69 : am_CP 7 (69, 0, 2, mX1_put) := ⟨moX1_put, fun _ => wr17 _ (List.mem_of_getElem? (i := 17) rfl), fun h => absurd h (by decide), fun _ => wr15 _ (List.mem_of_getElem? (i := 17) rfl), fun _ => wr15 _ (List.mem_of_getElem? (i := 18) rfl), fun h => absurd h (by decide), fun h => absurd h (by decide), by decide +kernel⟩
set_option maxRecDepth 100000 in
theorem cq7_75 : am_CP 7 (75, 0, 1, mX3_keyOn) := ⟨moX3_keyOn, fun _ => wr10 _ (List.mem_of_getElem? (i := 0) rfl), fun h => absurd h (by decide), fun _ => wr10 _ (List.mem_of_getElem? (i := 1) rfl), fun _ => wr10 _ (List.mem_of_getElem? (i := 2) rfl), fun h => absurd h (by decide), fun h => absurd h (by decide), by decide +kernel⟩
set_option maxRecDepth 100000 in
theorem cq8_11 : am_CP 8 (11, 5, 0, mX3_init) := ⟨moX3_init, fun h => absurd h (by decide), fun _ => List.mem_of_getElem? (i := 1) rfl, fun _ => wr3 _ (List.mem_of_getElem? (i := 13) rfl), fun h => absurd h (by decide), fun h => absurd h (by decide), fun _ => ⟨rfl, rfl⟩, by decide +kernel⟩
set_option maxRecDepth 100000 in
theorem cq8_20 : am_CP 8 (20, 2, 0, mX1_init) := ⟨moX1_init, fun _ => wr3 _ (List.mem_of_getElem? (i := 18) rfl), fun h => absurd h (by decide), fun _ => wr3 _ (List.mem_of_getElem? (i := 19) rfl), fun h => absurd h (by decide), fun h => absurd h (by decide), fun _ => ⟨rfl, rfl⟩, by decide +kernel⟩
set_option maxRecDepth 100000 in
theorem cq8_27 : am_CP 8 (27, 5, 0, mX5_init) := ⟨moX5_init, fun h => absurd h (by decide), fun _ => List.mem_of_getElem? (i := 2) rfl, fun _ => wr4 _ (List.mem_of_getElem? (i := 13) rfl), fun h => absurd h (by decide), fun h => absurd h (by decide), fun _ => ⟨rfl, rfl⟩, by decide +kernel⟩
set_option maxRecDepth 100000 in
theorem cq8_40 : am_CP 8 (40, 4, 1, mX11_isSetting) := ⟨moX11_isSetting, fun h => absurd h (by decide), fun _ => List.mem_of_getElem? (i := 14) rfl, fun h => absurd h (by decide), fun h => absurd h (by decide), fun _ => wr14 _ (List.mem_of_getElem? (i := 8) rfl), fun h => absurd h (by decide), by decide +kernel⟩
set_option maxRecDepth 100000 in
theorem cq8_44 : am_CP 8 (44, 0, 1, mX3_copyFrom) := ⟨moX3_copyFrom, fun _ => wr12 _ (List.mem_of_getElem? (i := 23) rfl), fun h => absurd h (by decide), fun _ => wr13 _ (List.mem_of_getElem? (i := 0) rfl), fun _ => wr13 _ (List.mem_of_getElem? (i := 1) rfl), fun h => absurd h (by decide), fun h => absurd h (by decide), by decide +kernel⟩
set_option maxRecDepth 100000 in
theorem cq8_48 : am_CP 8 (48, 0, 1, mX1_copyFrom) := ⟨moX1_copyFrom, fun _ => wr13 _ (List.mem_of_getElem? (i := 4) rfl), fun h => absurd h (by decide), fun _ => wr13 _ (List.mem_of_getElem? (i := 5) rfl), fun _ => wr13 _ (List.mem_of_getElem? (i := 6) rfl), fun h => absurd h (by decide), fun h => absurd h (by decide), by decide +kernel⟩
set_option maxRecDepth 100000 in
theorem cq8_51 : am_CP 8 (51, 0, 1, mX5_copyFrom) := ⟨moX5_copyFrom, fun _ => wr13 _ (List.mem_of_getElem? (i := 14) rfl), fun h => absurd h (by decide), fun _ => wr13 _ (List.mem_of_getElem? (i := 15) rfl), fun _ => wr13 _ (List.mem_of_getElem? (i := 16) rfl), fun h => absurd h (by decide), fun h => absurd h (by decide), by decide +kernel⟩
set_option maxRecDepth 100000 in
theorem cq9_35 : am_CP 9 (35, 0, 1, mX9_readBetweenWords) := ⟨moX9_readBetweenWords, fun _ => wr25 _ (List.mem_of_getElem? (i := 14) rfl), fun h => absurd h (by decide), fun _ => wr25 _ (List.mem_of_getElem? (i := 15) rfl), fun _ => wr25 _ (List.mem_of_getElem? (i := 16) rfl), fun h => absurd h (by decide), fun h => absurd h (by decide), by decide +kernel⟩
set_option maxRecDepth 100000 in
theorem cq9_39 : am_CP 9 (39, 0, 2, mX9_readInWord) := ⟨moX9_readInWord, fun _ => wr26 _ (List.mem_of_getElem? (i := 8) rfl), fun h => absurd h (by decide), fun _ => wr26 _ (List.mem_of_getElem? (i := 9) rfl), fun _ => wr26 _ (List.mem_of_getElem? (i := 10) rfl), fun h => absurd h (by decide), fun h => absurd h (by decide), by decide +kernel⟩
set_option maxRecDepth 100000 in
theorem cq9_43 : am_CP 9 (43, 0, 2, mX9_noteFault) := ⟨moX9_noteFault, fun _ => wr26 _ (List.mem_of_getElem? (i := 17) rfl), fun h => absurd h (by decide), fun _ => wr26 _ (List.mem_of_getElem? (i := 18) rfl), fun _ => wr26 _ (List.mem_of_getElem? (i := 19) rfl), fun h => absurd h (by decide), fun h => absurd h (by decide), by decide +kernel⟩
set_option maxRecDepth 100000 in
theorem cq9_47 : am_CP 9 (47, 0, 0, mX9_hasWord) := ⟨moX9_hasWord, fun _ => wr26 _ (List.mem_of_getElem? (i := 21) rfl), fun h => absurd h (by decide), fun _ => wr26 _ (List.mem_of_getElem? (i := 22) rfl), fun _ => wr26 _ (List.mem_of_getElem? (i := 23) rfl), fun h => absurd h (by decide), fun h => absurd h (by decide), by decide +kernel⟩
set_option maxRecDepth 100000 in
theorem cq9_51 : am_CP 9 (51, 0, 0, mX9_endsBehindLetter) := ⟨moX9_endsBehindLetter, fun _ => wr27 _ (List.mem_of_getElem? (i := 1) rfl), fun h => absurd h (by decide), fun _ => wr27 _ (List.mem_of_getElem? (i := 2) rfl), fun _ => wr27 _ (List.mem_of_getElem? (i := 3) rfl), fun h => absurd h (by decide), fun h => absurd h (by decide), by decide +kernel⟩
set_option maxRecDepth 100000 in
theorem cq9_54 : am_CP 9 (54, 0, 1, mX9_at) := ⟨moX9_at, fun _ => wr25 _ (List.mem_of_getElem? (i := 18) rfl), fun h => absurd h (by decide), fun _ => wr25 _ (List.mem_of_getElem? (i := 19) rfl), fun _ => wr25 _ (List.mem_of_getElem? (i := 20) rfl), fun h => absurd h (by decide), fun h => absurd h (by decide), by decide +kernel⟩
set_option maxRecDepth 100000 in
theorem cq9_57 : am_CP 9 (57, 1, 1, mX9_fieldOf) := ⟨moX9_fieldOf, fun _ => wr25 _ (List.mem_of_getElem? (i := 22) rfl), fun h => absurd h (by decide), fun h => absurd h (by decide), fun h => absurd h (by decide), fun _ => wr25 _ (List.mem_of_getElem? (i := 23) rfl), fun h => absurd h (by decide), by decide +kernel⟩
set_option maxRecDepth 100000 in
theorem cq9_60 : am_CP 9 (60, 0, 1, mX9_digitsOf) := ⟨moX9_digitsOf, fun _ => wr26 _ (List.mem_of_getElem? (i := 1) rfl), fun h => absurd h (by decide), fun _ => wr26 _ (List.mem_of_getElem? (i := 2) rfl), fun _ => wr26 _ (List.mem_of_getElem? (i := 3) rfl), fun h => absurd h (by decide), fun h => absurd h (by decide), by decide +kernel⟩
set_option maxRecDepth 100000 in
theorem cq9_63 : am_CP 9 (63, 1, 1, mX9_isTextField) := ⟨moX9_isTextField, fun _ => wr26 _ (List.mem_of_getElem? (i := 5) rfl), fun h => absurd h (by decide), fun h => absurd h (by decide), fun h => absurd h (by decide), fun _ => wr26 _ (List.mem_of_getElem? (i := 6) rfl), fun h => absurd h (by decide), by decide +kernel⟩
set_option maxRecDepth 100000 in
theorem cq9_67 : am_CP 9 (67, 4, 3, mX11_isWithin) := ⟨moX11_isWithin, fun h => absurd h (by decide), fun _ => List.mem_of_getElem? (i := 16) rfl, fun h => absurd h (by decide), fun h => absurd h (by decide), fun _ => wr8 _ (List.mem_of_getElem? (i := 8) rfl), fun h => absurd h (by decide), by decide +kernel⟩
set_option maxRecDepth 100000 in
theorem cq9_71 : am_CP 9 (71, 0, 1, mX3_widthOf) := ⟨moX3_widthOf, fun _ => wr26 _ (List.mem_of_getElem? (i := 12) rfl), fun h => absurd h (by decide), fun _ => wr10 _ (List.mem_of_getElem? (i := 17) rfl), fun _ => wr10 _ (List.mem_of_getElem? (i := 18) rfl), fun h => absurd h (by decide), fun h => absurd h (by decide), by decide +kernel⟩
set_option maxRecDepth 100000 in
theorem cq9_76 : am_CP 9 (76, 0, 1, mX9_countDigit) := ⟨moX9_countDigit, fun _ => wr26 _ (List.mem_of_getElem? (i := 13) rfl), fun h => absurd h (by decide), fun _ => wr26 _ (List.mem_of_getElem? (i := 14) rfl), fun _ => wr26 _ (List.mem_of_getElem? (i := 15) rfl), fun h => absurd h (by decide), fun h => absurd h (by decide), by decide +kernel⟩
set_option maxRecDepth 100000 in
theorem cq9_79 : am_CP 9 (79, 0, 3, mX9_punchNumber) := ⟨moX9_punchNumber, fun _ => wr27 _ (List.mem_of_getElem? (i := 14) rfl), fun h => absurd h (by decide), fun _ => wr27 _ (List.mem_of_getElem? (i := 15) rfl), fun _ => wr27 _ (List.mem_of_getElem? (i := 16) rfl), fun h => absurd h (by decide), fun h => absurd h (by decide), by decide +kernel⟩
set_option maxRecDepth 100000 in
theorem cq9_83 : am_CP 9 (83, 0, 1, mX3_firstOf) := ⟨moX3_firstOf, fun _ => wr27 _ (List.mem_of_getElem? (i := 18) rfl), fun h => absurd h (by decide), fun _ => wr10 _ (List.mem_of_getElem? (i := 11) rfl), fun _ => wr10 _ (List.mem_of_getElem? (i := 12) rfl), fun h => absurd h (by decide), fun h => absurd h (by decide), by decide +kernel⟩
set_option maxRecDepth 100000 in
theorem cq9_86 : am_CP 9 (86, 0, 2, mX0_show) := ⟨moX0_show, fun _ => wr27 _ (List.mem_of_getElem? (i := 19) rfl), fun h => absurd h (by decide), fun _ => wr16 _ (List.mem_of_getElem? (i := 11) rfl), fun _ => wr16 _ (List.mem_of_getElem? (i := 12) rfl), fun h => absurd h (by decide), fun h => absurd h (by decide), by decide +kernel⟩
set_option maxRecDepth 100000 in
theorem cq10_23 : am_CP 10 (23, 1, 3, mX10_keyOf) := ⟨moX10_keyOf, fun _ => wr20 _ (List.mem_of_getElem? (i := 15) rfl), fun h => absurd h (by decide), fun h => absurd h (by decide), fun h => absurd h (by decide), fun _ => wr11 _ (List.mem_of_getElem? (i := 3) rfl), fun h => absurd h (by decide), by decide +kernel⟩
set_option maxRecDepth 100000 in
theorem cq10_42 : am_CP 10 (42, 0, 2, mX3_valueOn) := ⟨moX3_valueOn, fun _ => wr20 _ (List.mem_of_getElem? (i := 1) rfl), fun h => absurd h (by decide), fun _ => wr10 _ (List.mem_of_getElem? (i := 7) rfl), fun _ => wr10 _ (List.mem_of_getElem? (i := 8) rfl), fun h => absurd h (by decide), fun h => absurd h (by decide), by decide +kernel⟩
set_option maxRecDepth 100000 in
theorem cq11_11 : am_CP 11 (11, 5, 0, mX8_init) := ⟨moX8_init, fun h => absurd h (by decide), fun _ => List.mem_of_getElem? (i := 0) rfl, fun _ => wr2 _ (List.mem_of_getElem? (i := 18) rfl), fun h => absurd h (by decide), fun h => absurd h (by decide), fun _ => ⟨rfl, rfl⟩, by decide +kernel⟩
set_option maxRecDepth 100000 in
theorem cq11_18 : am_CP 11 (18, 5, 0, mX2_init) := ⟨moX2_init, fun h => absurd h (by decide), fun _ => List.mem_of_getElem? (i := 3) rfl, fun _ => wr4 _ (List.mem_of_getElem? (i := 18) rfl), fun h => absurd h (by decide), fun h => absurd h (by decide), fun _ => ⟨rfl, rfl⟩, by decide +kernel⟩
set_option maxRecDepth 100000 in
theorem cq11_29 : am_CP 11 (29, 5, 0, mX9_init) := ⟨moX9_init, fun h => absurd h (by decide), fun _ => List.mem_of_getElem? (i := 4) rfl, fun _ => wr4 _ (List.mem_of_getElem? (i := 23) rfl), fun h => absurd h (by decide), fun h => absurd h (by decide), fun _ => ⟨rfl, rfl⟩, by decide +kernel⟩
set_option maxRecDepth 100000 in
theorem cq11_36 : am_CP 11 (36, 5, 0, mX7_init) := ⟨moX7_init, fun h => absurd h (by decide), fun _ => List.mem_of_getElem? (i := 5) rfl, fun _ => wr5 _ (List.mem_of_getElem? (i := 8) rfl), fun h => absurd h (by decide), fun h => absurd h (by decide), fun _ => ⟨rfl, rfl⟩, by decide +kernel⟩
set_option maxRecDepth 100000 in
theorem cq11_43 : am_CP 11 (43, 5, 0, mX4_init) := ⟨moX4_init, fun h => absurd h (by decide), fun _ => List.mem_of_getElem? (i := 6) rfl, fun _ => wr5 _ (List.mem_of_getElem? (i := 16) rfl), fun h => absurd h (by decide), fun h => absurd h (by decide), fun _ => ⟨rfl, rfl⟩, by decide +kernel⟩
set_option maxRecDepth 100000 in
theorem cq11_50 : am_CP 11 (50, 2, 0, mX6_init) := ⟨moX6_init, fun _ => wr6 _ (List.mem_of_getElem? (i := 3) rfl), fun h => absurd h (by decide), fun _ => wr6 _ (List.mem_of_getElem? (i := 4) rfl), fun h => absurd h (by decide), fun h => absurd h (by decide), fun _ => ⟨rfl, rfl⟩, by decide +kernel⟩
set_option maxRecDepth 100000 in
theorem cq11_57 : am_CP 11 (57, 2, 0, mX0_init) := ⟨moX0_init, fun _ => wr6 _ (List.mem_of_getElem? (i := 11) rfl), fun h => absurd h (by decide), fun _ => wr4 _ (List.mem_of_getElem? (i := 2) rfl), fun h => absurd h (by decide), fun h => absurd h (by decide), fun _ => ⟨rfl, rfl⟩, by decide +kernel⟩
set_option maxRecDepth 100000 in
theorem cq11_64 : am_CP 11 (64, 5, 0, mX10_init) := ⟨moX10_init, fun h => absurd h (by decide), fun _ => List.mem_of_getElem? (i := 9) rfl, fun _ => wr6 _ (List.mem_of_getElem? (i := 0) rfl), fun h => absurd h (by decide), fun h => absurd h (by decide), fun _ => ⟨rfl, rfl⟩, by decide +kernel⟩
set_option maxRecDepth 100000 in
theorem cq11_69 : am_CP 11 (69, 1, 1, mX11_isField) := ⟨moX11_isField, fun _ => wr11 _ (List.mem_of_getElem? (i := 20) rfl), fun h => absurd h (by decide), fun h => absurd h (by decide), fun h => absurd h (by decide), fun _ => wr10 _ (List.mem_of_getElem? (i := 14) rfl), fun h => absurd h (by decide), by decide +kernel⟩
set_option maxRecDepth 100000 in
theorem cq11_73 : am_CP 11 (73, 1, 3, mX11_fits) := ⟨moX11_fits, fun _ => wr11 _ (List.mem_of_getElem? (i := 21) rfl), fun h => absurd h (by decide), fun h => absurd h (by decide), fun h => absurd h (by decide), fun _ => wr11 _ (List.mem_of_getElem? (i := 22) rfl), fun h => absurd h (by decide), by decide +kernel⟩
set_option maxRecDepth 100000 in
theorem cq11_78 : am_CP 11 (78, 0, 1, mX2_record) := ⟨moX2_record, fun _ => wr12 _ (List.mem_of_getElem? (i := 2) rfl), fun h => absurd h (by decide), fun _ => wr12 _ (List.mem_of_getElem? (i := 3) rfl), fun _ => wr12 _ (List.mem_of_getElem? (i := 4) rfl), fun h => absurd h (by decide), fun h => absurd h (by decide), by decide +kernel⟩
set_option maxRecDepth 100000 in
theorem cq11_86 : am_CP 11 (86, 0, 1, mX3_firstOf) := ⟨moX3_firstOf, fun _ => wr13 _ (List.mem_of_getElem? (i := 20) rfl), fun h => absurd h (by decide), fun _ => wr10 _ (List.mem_of_getElem? (i := 11) rfl), fun _ => wr10 _ (List.mem_of_getElem? (i := 12) rfl), fun h => absurd h (by decide), fun h => absurd h (by decide), by decide +kernel⟩
set_option maxRecDepth 100000 in
theorem cq11_92 : am_CP 11 (92, 0, 3, mX3_place) := ⟨moX3_place, fun _ => wr13 _ (List.mem_of_getElem? (i := 21) rfl), fun h => absurd h (by decide), fun _ => wr13 _ (List.mem_of_getElem? (i := 22) rfl), fun _ => wr13 _ (List.mem_of_getElem? (i := 23) rfl), fun h => absurd h (by decide), fun h => absurd h (by decide), by decide +kernel⟩
set_option maxRecDepth 100000 in
theorem cq11_96 : am_CP 11 (96, 1, 1, mX11_isSetting) := ⟨moX11_isSetting, fun _ => wr14 _ (List.mem_of_getElem? (i := 7) rfl), fun h => absurd h (by decide), fun h => absurd h (by decide), fun h => absurd h (by decide), fun _ => wr14 _ (List.mem_of_getElem? (i := 8) rfl), fun h => absurd h (by decide), by decide +kernel⟩
set_option maxRecDepth 100000 in
theorem cq11_103 : am_CP 11 (103, 1, 3, mX11_isWithin) := ⟨moX11_isWithin, fun _ => wr12 _ (List.mem_of_getElem? (i := 0) rfl), fun h => absurd h (by decide), fun h => absurd h (by decide), fun h => absurd h (by decide), fun _ => wr8 _ (List.mem_of_getElem? (i := 8) rfl), fun h => absurd h (by decide), by decide +kernel⟩
set_option maxRecDepth 100000 in
theorem cq11_106 : am_CP 11 (106, 0, 1, mX8_settingOf) := ⟨moX8_settingOf, fun _ => wr14 _ (List.mem_of_getElem? (i := 10) rfl), fun h => absurd h (by decide), fun _ => wr14 _ (List.mem_of_getElem? (i := 11) rfl), fun _ => wr14 _ (List.mem_of_getElem? (i := 12) rfl), fun h => absurd h (by decide), fun h => absurd h (by decide), by decide +kernel⟩
set_option maxRecDepth 100000 in
theorem cq11_112 : am_CP 11 (112, 1, 1, mX11_isControl) := ⟨moX11_isControl, fun _ => wr14 _ (List.mem_of_getElem? (i := 20) rfl), fun h => absurd h (by decide), fun h => absurd h (by decide), fun h => absurd h (by decide), fun _ => wr14 _ (List.mem_of_getElem? (i := 21) rfl), fun h => absurd h (by decide), by decide +kernel⟩
set_option maxRecDepth 100000 in
theorem cq11_124 : am_CP 11 (124, 0, 0, mX1_size) := ⟨moX1_size, fun _ => wr7 _ (List.mem_of_getElem? (i := 10) rfl), fun h => absurd h (by decide), fun _ => wr7 _ (List.mem_of_getElem? (i := 11) rfl), fun _ => wr7 _ (List.mem_of_getElem? (i := 12) rfl), fun h => absurd h (by decide), fun h => absurd h (by decide), by decide +kernel⟩
set_option maxRecDepth 100000 in
theorem cq11_130 : am_CP 11 (130, 0, 1, mX9_readsAsCard) := ⟨moX9_readsAsCard, fun _ => wr25 _ (List.mem_of_getElem? (i := 9) rfl), fun h => absurd h (by decide), fun _ => wr25 _ (List.mem_of_getElem? (i := 10) rfl), fun _ => wr25 _ (List.mem_of_getElem? (i := 11) rfl), fun h => absurd h (by decide), fun h => absurd h (by decide), by decide +kernel⟩
set_option maxRecDepth 100000 in
theorem cq11_136 : am_CP 11 (136, 0, 1, mX1_insertBlank) := ⟨moX1_insertBlank, fun _ => wr27 _ (List.mem_of_getElem? (i := 5) rfl), fun h => absurd h (by decide), fun _ => wr27 _ (List.mem_of_getElem? (i := 6) rfl), fun _ => wr27 _ (List.mem_of_getElem? (i := 7) rfl), fun h => absurd h (by decide), fun h => absurd h (by decide), by decide +kernel⟩
set_option maxRecDepth 100000 in
theorem cq11_140 : am_CP 11 (140, 0, 2, mX9_punchOn) := ⟨moX9_punchOn, fun _ => wr27 _ (List.mem_of_getElem? (i := 10) rfl), fun h => absurd h (by decide), fun _ => wr27 _ (List.mem_of_getElem? (i := 11) rfl), fun _ => wr27 _ (List.mem_of_getElem? (i := 12) rfl), fun h => absurd h (by decide), fun h => absurd h (by decide), by decide +kernel⟩
set_option maxRecDepth 100000 in
theorem cq11_144 : am_CP 11 (144, 0, 1, mX3_dueOn) := ⟨moX3_dueOn, fun _ => wr20 _ (List.mem_of_getElem? (i := 3) rfl), fun h => absurd h (by decide), fun _ => wr20 _ (List.mem_of_getElem? (i := 4) rfl), fun _ => wr20 _ (List.mem_of_getElem? (i := 5) rfl), fun h => absurd h (by decide), fun h => absurd h (by decide), by decide +kernel⟩
set_option maxRecDepth 100000 in
theorem cq11_148 : am_CP 11 (148, 0, 2, mX0_show) := ⟨moX0_show, fun _ => wr16 _ (List.mem_of_getElem? (i := 10) rfl), fun h => absurd h (by decide), fun _ => wr16 _ (List.mem_of_getElem? (i := 11) rfl), fun _ => wr16 _ (List.mem_of_getElem? (i := 12) rfl), fun h => absurd h (by decide), fun h => absurd h (by decide), by decide +kernel⟩
set_option maxRecDepth 100000 in
theorem cq11_152 : am_CP 11 (152, 0, 1, mX1_has) := ⟨moX1_has, fun _ => wr15 _ (List.mem_of_getElem? (i := 3) rfl), fun h => absurd h (by decide), fun _ => wr15 _ (List.mem_of_getElem? (i := 4) rfl), fun _ => wr15 _ (List.mem_of_getElem? (i := 5) rfl), fun h => absurd h (by decide), fun h => absurd h (by decide), by decide +kernel⟩
set_option maxRecDepth 100000 in
theorem cq11_155 : am_CP 11 (155, 0, 1, mX1_remove) := ⟨moX1_remove, fun _ => wr15 _ (List.mem_of_getElem? (i := 7) rfl), fun h => absurd h (by decide), fun _ => wr15 _ (List.mem_of_getElem? (i := 8) rfl), fun _ => wr15 _ (List.mem_of_getElem? (i := 9) rfl), fun h => absurd h (by decide), fun h => absurd h (by decide), by decide +kernel⟩
set_option maxRecDepth 100000 in
theorem cq11_159 : am_CP 11 (159, 0, 2, mX1_carry) := ⟨moX1_carry, fun _ => wr16 _ (List.mem_of_getElem? (i := 3) rfl), fun h => absurd h (by decide), fun _ => wr15 _ (List.mem_of_getElem? (i := 13) rfl), fun _ => wr15 _ (List.mem_of_getElem? (i := 14) rfl), fun h => absurd h (by decide), fun h => absurd h (by decide), by decide +kernel⟩
set_option maxRecDepth 100000 in
theorem cq11_167 : am_CP 11 (167, 1, 1, mX11_isColumn) := ⟨moX11_isColumn, fun _ => wr12 _ (List.mem_of_getElem? (i := 1) rfl), fun h => absurd h (by decide), fun h => absurd h (by decide), fun h => absurd h (by decide), fun _ => wr11 _ (List.mem_of_getElem? (i := 0) rfl), fun h => absurd h (by decide), by decide +kernel⟩
set_option maxRecDepth 100000 in
theorem cq11_170 : am_CP 11 (170, 0, 1, mX1_at) := ⟨moX1_at, fun _ => wr16 _ (List.mem_of_getElem? (i := 8) rfl), fun h => absurd h (by decide), fun _ => wr9 _ (List.mem_of_getElem? (i := 21) rfl), fun _ => wr9 _ (List.mem_of_getElem? (i := 22) rfl), fun h => absurd h (by decide), fun h => absurd h (by decide), by decide +kernel⟩
set_option maxRecDepth 100000 in
theorem cq11_173 : am_CP 11 (173, 0, 1, mX0_shows) := ⟨moX0_shows, fun _ => wr16 _ (List.mem_of_getElem? (i := 9) rfl), fun h => absurd h (by decide), fun _ => wr10 _ (List.mem_of_getElem? (i := 21) rfl), fun _ => wr10 _ (List.mem_of_getElem? (i := 22) rfl), fun h => absurd h (by decide), fun h => absurd h (by decide), by decide +kernel⟩
set_option maxRecDepth 100000 in
theorem cq11_183 : am_CP 11 (183, 0, 1, mX7_begin) := ⟨moX7_begin, fun _ => wr9 _ (List.mem_of_getElem? (i := 5) rfl), fun h => absurd h (by decide), fun _ => wr9 _ (List.mem_of_getElem? (i := 6) rfl), fun _ => wr9 _ (List.mem_of_getElem? (i := 7) rfl), fun h => absurd h (by decide), fun h => absurd h (by decide), by decide +kernel⟩
set_option maxRecDepth 100000 in
theorem cq11_187 : am_CP 11 (187, 0, 2, mX7_passBy) := ⟨moX7_passBy, fun _ => wr17 _ (List.mem_of_getElem? (i := 0) rfl), fun h => absurd h (by decide), fun _ => wr17 _ (List.mem_of_getElem? (i := 1) rfl), fun _ => wr17 _ (List.mem_of_getElem? (i := 2) rfl), fun h => absurd h (by decide), fun h => absurd h (by decide), by decide +kernel⟩
set_option maxRecDepth 100000 in
theorem cq11_191 : am_CP 11 (191, 0, 1, mX7_arrange) := ⟨moX7_arrange, fun _ => wr17 _ (List.mem_of_getElem? (i := 13) rfl), fun h => absurd h (by decide), fun _ => wr17 _ (List.mem_of_getElem? (i := 14) rfl), fun _ => wr17 _ (List.mem_of_getElem? (i := 15) rfl), fun h => absurd h (by decide), fun h => absurd h (by decide), by decide +kernel⟩
set_option maxRecDepth 100000 in
theorem cq11_195 : am_CP 11 (195, 0, 1, mX3_widthOf) := ⟨moX3_widthOf, fun _ => wr17 _ (List.mem_of_getElem? (i := 22) rfl), fun h => absurd h (by decide), fun _ => wr10 _ (List.mem_of_getElem? (i := 17) rfl), fun _ => wr10 _ (List.mem_of_getElem? (i := 18) rfl), fun h => absurd h (by decide), fun h => absurd h (by decide), by decide +kernel⟩
set_option maxRecDepth 100000 in
theorem cq11_202 : am_CP 11 (202, 0, 2, mX5_begin) := ⟨moX5_begin, fun _ => wr18 _ (List.mem_of_getElem? (i := 3) rfl), fun h => absurd h (by decide), fun _ => wr18 _ (List.mem_of_getElem? (i := 4) rfl), fun _ => wr18 _ (List.mem_of_getElem? (i := 5) rfl), fun h => absurd h (by decide), fun h => absurd h (by decide), by decide +kernel⟩
set_option maxRecDepth 100000 in
theorem cq11_206 : am_CP 11 (206, 0, 0, mX4_begin) := ⟨moX4_begin, fun _ => wr18 _ (List.mem_of_getElem? (i := 8) rfl), fun h => absurd h (by decide), fun _ => wr18 _ (List.mem_of_getElem? (i := 9) rfl), fun _ => wr18 _ (List.mem_of_getElem? (i := 10) rfl), fun h => absurd h (by decide), fun h => absurd h (by decide), by decide +kernel⟩
set_option maxRecDepth 100000 in
theorem cq11_208 : am_CP 11 (208, 0, 2, mX11_feedDeck) := ⟨moX11_feedDeck, fun _ => wr19 _ (List.mem_of_getElem? (i := 0) rfl), fun h => absurd h (by decide), fun _ => wr19 _ (List.mem_of_getElem? (i := 1) rfl), fun _ => wr19 _ (List.mem_of_getElem? (i := 2) rfl), fun h => absurd h (by decide), fun h => absurd h (by decide), by decide +kernel⟩
set_option maxRecDepth 100000 in
theorem cq11_212 : am_CP 11 (212, 0, 1, mX4_end) := ⟨moX4_end, fun _ => wr23 _ (List.mem_of_getElem? (i := 4) rfl), fun h => absurd h (by decide), fun _ => wr23 _ (List.mem_of_getElem? (i := 5) rfl), fun _ => wr23 _ (List.mem_of_getElem? (i := 6) rfl), fun h => absurd h (by decide), fun h => absurd h (by decide), by decide +kernel⟩
set_option maxRecDepth 100000 in
theorem cq11_216 : am_CP 11 (216, 0, 0, mX2_isEmpty) := ⟨moX2_isEmpty, fun _ => wr23 _ (List.mem_of_getElem? (i := 13) rfl), fun h => absurd h (by decide), fun _ => wr23 _ (List.mem_of_getElem? (i := 14) rfl), fun _ => wr23 _ (List.mem_of_getElem? (i := 15) rfl), fun h => absurd h (by decide), fun h => absurd h (by decide), by decide +kernel⟩
set_option maxRecDepth 100000 in
theorem cq11_220 : am_CP 11 (220, 0, 1, mX2_restoreInto) := ⟨moX2_restoreInto, fun _ => wr23 _ (List.mem_of_getElem? (i := 17) rfl), fun h => absurd h (by decide), fun _ => wr23 _ (List.mem_of_getElem? (i := 18) rfl), fun _ => wr23 _ (List.mem_of_getElem? (i := 19) rfl), fun h => absurd h (by decide), fun h => absurd h (by decide), by decide +kernel⟩
set_option maxRecDepth 100000 in
theorem cq11_223 : am_CP 11 (223, 0, 0, mX2_size) := ⟨moX2_size, fun _ => wr11 _ (List.mem_of_getElem? (i := 11) rfl), fun h => absurd h (by decide), fun _ => wr11 _ (List.mem_of_getElem? (i := 12) rfl), fun _ => wr11 _ (List.mem_of_getElem? (i := 13) rfl), fun h => absurd h (by decide), fun h => absurd h (by decide), by decide +kernel⟩
set_option maxRecDepth 100000 in
theorem cq11_224 : am_CP 11 (224, 0, 0, mX9_size) := ⟨moX9_size, fun _ => wr11 _ (List.mem_of_getElem? (i := 6) rfl), fun h => absurd h (by decide), fun _ => wr11 _ (List.mem_of_getElem? (i := 7) rfl), fun _ => wr11 _ (List.mem_of_getElem? (i := 8) rfl), fun h => absurd h (by decide), fun h => absurd h (by decide), by decide +kernel⟩
set_option maxRecDepth 100000 in
theorem cq11_225 : am_CP 11 (225, 0, 1, mX9_append) := ⟨moX9_append, fun _ => wr25 _ (List.mem_of_getElem? (i := 1) rfl), fun h => absurd h (by decide), fun _ => wr25 _ (List.mem_of_getElem? (i := 2) rfl), fun _ => wr25 _ (List.mem_of_getElem? (i := 3) rfl), fun h => absurd h (by decide), fun h => absurd h (by decide), by decide +kernel⟩
set_option maxRecDepth 100000 in
theorem cq11_228 : am_CP 11 (228, 0, 0, mX9_clear) := ⟨moX9_clear, fun _ => wr24 _ (List.mem_of_getElem? (i := 13) rfl), fun h => absurd h (by decide), fun _ => wr24 _ (List.mem_of_getElem? (i := 14) rfl), fun _ => wr24 _ (List.mem_of_getElem? (i := 15) rfl), fun h => absurd h (by decide), fun h => absurd h (by decide), by decide +kernel⟩
set_option maxRecDepth 100000 in
theorem cq11_240 : am_CP 11 (240, 0, 0, mX5_isEmpty) := ⟨moX5_isEmpty, fun _ => wr7 _ (List.mem_of_getElem? (i := 15) rfl), fun h => absurd h (by decide), fun _ => wr7 _ (List.mem_of_getElem? (i := 16) rfl), fun _ => wr7 _ (List.mem_of_getElem? (i := 17) rfl), fun h => absurd h (by decide), fun h => absurd h (by decide), by decide +kernel⟩
set_option maxRecDepth 100000 in
theorem cq11_241 : am_CP 11 (241, 0, 1, mX5_lastLine) := ⟨moX5_lastLine, fun _ => wr7 _ (List.mem_of_getElem? (i := 20) rfl), fun h => absurd h (by decide), fun _ => wr7 _ (List.mem_of_getElem? (i := 21) rfl), fun _ => wr7 _ (List.mem_of_getElem? (i := 22) rfl), fun h => absurd h (by decide), fun h => absurd h (by decide), by decide +kernel⟩
set_option maxRecDepth 100000 in
theorem cq11_244 : am_CP 11 (244, 0, 0, mX5_refusedCards) := ⟨moX5_refusedCards, fun _ => wr8 _ (List.mem_of_getElem? (i := 10) rfl), fun h => absurd h (by decide), fun _ => wr8 _ (List.mem_of_getElem? (i := 11) rfl), fun _ => wr8 _ (List.mem_of_getElem? (i := 12) rfl), fun h => absurd h (by decide), fun h => absurd h (by decide), by decide +kernel⟩
set_option maxRecDepth 100000 in
theorem cq11_247 : am_CP 11 (247, 0, 0, mX11_isDeckInOrder) := ⟨moX11_isDeckInOrder, fun _ => wr9 _ (List.mem_of_getElem? (i := 0) rfl), fun h => absurd h (by decide), fun _ => wr9 _ (List.mem_of_getElem? (i := 1) rfl), fun _ => wr9 _ (List.mem_of_getElem? (i := 2) rfl), fun h => absurd h (by decide), fun h => absurd h (by decide), by decide +kernel⟩
set_option maxRecDepth 100000 in
theorem cq11_250 : am_CP 11 (250, 0, 2, mX3_valueOn) := ⟨moX3_valueOn, fun _ => wr20 _ (List.mem_of_getElem? (i := 2) rfl), fun h => absurd h (by decide), fun _ => wr10 _ (List.mem_of_getElem? (i := 7) rfl), fun _ => wr10 _ (List.mem_of_getElem? (i := 8) rfl), fun h => absurd h (by decide), fun h => absurd h (by decide), by decide +kernel⟩
set_option maxRecDepth 100000 in
theorem cq11_254 : am_CP 11 (254, 0, 1, mX11_faultOfCard) := ⟨moX11_faultOfCard, fun _ => wr19 _ (List.mem_of_getElem? (i := 9) rfl), fun h => absurd h (by decide), fun _ => wr19 _ (List.mem_of_getElem? (i := 10) rfl), fun _ => wr19 _ (List.mem_of_getElem? (i := 11) rfl), fun h => absurd h (by decide), fun h => absurd h (by decide), by decide +kernel⟩
set_option maxRecDepth 100000 in
theorem cq11_257 : am_CP 11 (257, 0, 1, mX5_has) := ⟨moX5_has, fun _ => wr30 _ (List.mem_of_getElem? (i := 9) rfl), fun h => absurd h (by decide), fun _ => wr8 _ (List.mem_of_getElem? (i := 5) rfl), fun _ => wr8 _ (List.mem_of_getElem? (i := 6) rfl), fun h => absurd h (by decide), fun h => absurd h (by decide), by decide +kernel⟩
set_option maxRecDepth 100000 in
theorem cq11_258 : am_CP 11 (258, 0, 2, mX5_number) := ⟨moX5_number, fun _ => wr30 _ (List.mem_of_getElem? (i := 10) rfl), fun h => absurd h (by decide), fun _ => wr8 _ (List.mem_of_getElem? (i := 1) rfl), fun _ => wr8 _ (List.mem_of_getElem? (i := 2) rfl), fun h => absurd h (by decide), fun h => absurd h (by decide), by decide +kernel⟩
set_option maxRecDepth 100000 in
theorem cq11_262 : am_CP 11 (262, 0, 1, mX5_hadCard) := ⟨moX5_hadCard, fun _ => wr30 _ (List.mem_of_getElem? (i := 15) rfl), fun h => absurd h (by decide), fun _ => wr8 _ (List.mem_of_getElem? (i := 21) rfl), fun _ => wr8 _ (List.mem_of_getElem? (i := 22) rfl), fun h => absurd h (by decide), fun h => absurd h (by decide), by decide +kernel⟩
set_option maxRecDepth 100000 in
theorem cq11_265 : am_CP 11 (265, 0, 1, mX5_reasonOf) := ⟨moX5_reasonOf, fun _ => wr30 _ (List.mem_of_getElem? (i := 16) rfl), fun h => absurd h (by decide), fun _ => wr8 _ (List.mem_of_getElem? (i := 16) rfl), fun _ => wr8 _ (List.mem_of_getElem? (i := 17) rfl), fun h => absurd h (by decide), fun h => absurd h (by decide), by decide +kernel⟩
set_option maxRecDepth 100000 in
theorem cq11_268 : am_CP 11 (268, 0, 1, mX11_acceptedTotal) := ⟨moX11_acceptedTotal, fun _ => wr32 _ (List.mem_of_getElem? (i := 0) rfl), fun h => absurd h (by decide), fun _ => wr32 _ (List.mem_of_getElem? (i := 1) rfl), fun _ => wr32 _ (List.mem_of_getElem? (i := 2) rfl), fun h => absurd h (by decide), fun h => absurd h (by decide), by decide +kernel⟩
set_option maxRecDepth 100000 in
theorem cq11_271 : am_CP 11 (271, 0, 1, mX6_reckon) := ⟨moX6_reckon, fun _ => wr28 _ (List.mem_of_getElem? (i := 4) rfl), fun h => absurd h (by decide), fun _ => wr28 _ (List.mem_of_getElem? (i := 5) rfl), fun _ => wr28 _ (List.mem_of_getElem? (i := 6) rfl), fun h => absurd h (by decide), fun h => absurd h (by decide), by decide +kernel⟩
set_option maxRecDepth 100000 in
theorem cq11_274 : am_CP 11 (274, 0, 2, mX6_sum) := ⟨moX6_sum, fun _ => wr29 _ (List.mem_of_getElem? (i := 8) rfl), fun h => absurd h (by decide), fun _ => wr29 _ (List.mem_of_getElem? (i := 9) rfl), fun _ => wr29 _ (List.mem_of_getElem? (i := 10) rfl), fun h => absurd h (by decide), fun h => absurd h (by decide), by decide +kernel⟩
set_option maxRecDepth 100000 in
theorem cq11_277 : am_CP 11 (277, 0, 0, mX6_size) := ⟨moX6_size, fun _ => wr31 _ (List.mem_of_getElem? (i := 4) rfl), fun h => absurd h (by decide), fun _ => wr31 _ (List.mem_of_getElem? (i := 5) rfl), fun _ => wr31 _ (List.mem_of_getElem? (i := 6) rfl), fun h => absurd h (by decide), fun h => absurd h (by decide), by decide +kernel⟩
set_option maxRecDepth 100000 in
theorem cq11_278 : am_CP 11 (278, 0, 0, mX6_rank) := ⟨moX6_rank, fun _ => wr31 _ (List.mem_of_getElem? (i := 8) rfl), fun h => absurd h (by decide), fun _ => wr31 _ (List.mem_of_getElem? (i := 9) rfl), fun _ => wr31 _ (List.mem_of_getElem? (i := 10) rfl), fun h => absurd h (by decide), fun h => absurd h (by decide), by decide +kernel⟩
set_option maxRecDepth 100000 in
theorem cq11_281 : am_CP 11 (281, 0, 1, mX6_at) := ⟨moX6_at, fun _ => wr31 _ (List.mem_of_getElem? (i := 19) rfl), fun h => absurd h (by decide), fun _ => wr29 _ (List.mem_of_getElem? (i := 1) rfl), fun _ => wr29 _ (List.mem_of_getElem? (i := 2) rfl), fun h => absurd h (by decide), fun h => absurd h (by decide), by decide +kernel⟩
set_option maxRecDepth 100000 in
theorem cq11_298 : am_CP 11 (298, 0, 1, mX11_passByKeyColumns) := ⟨moX11_passByKeyColumns, fun _ => wr32 _ (List.mem_of_getElem? (i := 16) rfl), fun h => absurd h (by decide), fun _ => wr32 _ (List.mem_of_getElem? (i := 17) rfl), fun _ => wr32 _ (List.mem_of_getElem? (i := 18) rfl), fun h => absurd h (by decide), fun h => absurd h (by decide), by decide +kernel⟩
set_option maxRecDepth 100000 in
theorem cq11_301 : am_CP 11 (301, 0, 2, mX7_isInKeyOrder) := ⟨moX7_isInKeyOrder, fun _ => wr9 _ (List.mem_of_getElem? (i := 15) rfl), fun h => absurd h (by decide), fun _ => wr9 _ (List.mem_of_getElem? (i := 16) rfl), fun _ => wr9 _ (List.mem_of_getElem? (i := 17) rfl), fun h => absurd h (by decide), fun h => absurd h (by decide), by decide +kernel⟩
set_option maxRecDepth 100000 in
theorem cq11_305 : am_CP 11 (305, 0, 1, mX8_copyFrom) := ⟨moX8_copyFrom, fun _ => wr24 _ (List.mem_of_getElem? (i := 1) rfl), fun h => absurd h (by decide), fun _ => wr12 _ (List.mem_of_getElem? (i := 16) rfl), fun _ => wr12 _ (List.mem_of_getElem? (i := 17) rfl), fun h => absurd h (by decide), fun h => absurd h (by decide), by decide +kernel⟩
set_option maxRecDepth 100000 in
theorem cq11_310 : am_CP 11 (310, 0, 3, mX11_refusal) := ⟨moX11_refusal, fun _ => wr19 _ (List.mem_of_getElem? (i := 5) rfl), fun h => absurd h (by decide), fun _ => wr19 _ (List.mem_of_getElem? (i := 6) rfl), fun _ => wr19 _ (List.mem_of_getElem? (i := 7) rfl), fun h => absurd h (by decide), fun h => absurd h (by decide), by decide +kernel⟩
set_option maxRecDepth 100000 in
theorem cq11_314 : am_CP 11 (314, 0, 0, mX10_key) := ⟨moX10_key, fun _ => wr20 _ (List.mem_of_getElem? (i := 11) rfl), fun h => absurd h (by decide), fun _ => wr20 _ (List.mem_of_getElem? (i := 12) rfl), fun _ => wr20 _ (List.mem_of_getElem? (i := 13) rfl), fun h => absurd h (by decide), fun h => absurd h (by decide), by decide +kernel⟩
set_option maxRecDepth 100000 in
theorem cq11_318 : am_CP 11 (318, 0, 2, mX11_printJudged) := ⟨moX11_printJudged, fun _ => wr20 _ (List.mem_of_getElem? (i := 16) rfl), fun h => absurd h (by decide), fun _ => wr20 _ (List.mem_of_getElem? (i := 17) rfl), fun _ => wr20 _ (List.mem_of_getElem? (i := 18) rfl), fun h => absurd h (by decide), fun h => absurd h (by decide), by decide +kernel⟩
set_option maxRecDepth 100000 in
theorem cq11_321 : am_CP 11 (321, 0, 2, mX5_judge) := ⟨moX5_judge, fun _ => wr20 _ (List.mem_of_getElem? (i := 20) rfl), fun h => absurd h (by decide), fun _ => wr20 _ (List.mem_of_getElem? (i := 21) rfl), fun _ => wr20 _ (List.mem_of_getElem? (i := 22) rfl), fun h => absurd h (by decide), fun h => absurd h (by decide), by decide +kernel⟩
set_option maxRecDepth 100000 in
theorem cq11_324 : am_CP 11 (324, 0, 3, mX4_accept) := ⟨moX4_accept, fun _ => wr21 _ (List.mem_of_getElem? (i := 0) rfl), fun h => absurd h (by decide), fun _ => wr21 _ (List.mem_of_getElem? (i := 1) rfl), fun _ => wr21 _ (List.mem_of_getElem? (i := 2) rfl), fun h => absurd h (by decide), fun h => absurd h (by decide), by decide +kernel⟩
set_option maxRecDepth 100000 in
theorem cq11_328 : am_CP 11 (328, 0, 1, mX0_readFrom) := ⟨moX0_readFrom, fun _ => wr19 _ (List.mem_of_getElem? (i := 14) rfl), fun h => absurd h (by decide), fun _ => wr19 _ (List.mem_of_getElem? (i := 15) rfl), fun _ => wr19 _ (List.mem_of_getElem? (i := 16) rfl), fun h => absurd h (by decide), fun h => absurd h (by decide), by decide +kernel⟩
set_option maxRecDepth 100000 in
theorem cq11_332 : am_CP 11 (332, 0, 2, mX10_fillFrom) := ⟨moX10_fillFrom, fun _ => wr19 _ (List.mem_of_getElem? (i := 20) rfl), fun h => absurd h (by decide), fun _ => wr19 _ (List.mem_of_getElem? (i := 21) rfl), fun _ => wr19 _ (List.mem_of_getElem? (i := 22) rfl), fun h => absurd h (by decide), fun h => absurd h (by decide), by decide +kernel⟩
set_option maxRecDepth 100000 in
theorem cq11_339 : am_CP 11 (339, 0, 0, mX5_sumOfWorkers) := ⟨moX5_sumOfWorkers, fun _ => wr32 _ (List.mem_of_getElem? (i := 4) rfl), fun h => absurd h (by decide), fun _ => wr32 _ (List.mem_of_getElem? (i := 5) rfl), fun _ => wr32 _ (List.mem_of_getElem? (i := 6) rfl), fun h => absurd h (by decide), fun h => absurd h (by decide), by decide +kernel⟩
set_option maxRecDepth 100000 in
theorem cq14_9 : am_CP 14 (9, 0, 1, mX11_write) := ⟨moX11_write, fun _ => wr24 _ (List.mem_of_getElem? (i := 20) rfl), fun h => absurd h (by decide), fun _ => wr24 _ (List.mem_of_getElem? (i := 21) rfl), fun _ => wr24 _ (List.mem_of_getElem? (i := 22) rfl), fun h => absurd h (by decide), fun h => absurd h (by decide), by decide +kernel⟩
set_option maxRecDepth 100000 in
theorem cq14_15 : am_CP 14 (15, 0, 0, mX11_wipe) := ⟨moX11_wipe, fun _ => wr24 _ (List.mem_of_getElem? (i := 9) rfl), fun h => absurd h (by decide), fun _ => wr24 _ (List.mem_of_getElem? (i := 10) rfl), fun _ => wr24 _ (List.mem_of_getElem? (i := 11) rfl), fun h => absurd h (by decide), fun h => absurd h (by decide), by decide +kernel⟩
set_option maxRecDepth 100000 in
theorem cq14_19 : am_CP 14 (19, 1, 2, mL_low) := ⟨moL_low, fun _ => wr6 _ (List.mem_of_getElem? (i := 17) rfl), fun h => absurd h (by decide), fun h => absurd h (by decide), fun h => absurd h (by decide), fun _ => wr6 _ (List.mem_of_getElem? (i := 18) rfl), fun h => absurd h (by decide), by decide +kernel⟩
set_option maxRecDepth 100000 in
theorem cq14_25 : am_CP 14 (25, 1, 3, mL_number) := ⟨moL_number, fun _ => wr24 _ (List.mem_of_getElem? (i := 17) rfl), fun h => absurd h (by decide), fun h => absurd h (by decide), fun h => absurd h (by decide), fun _ => wr24 _ (List.mem_of_getElem? (i := 18) rfl), fun h => absurd h (by decide), by decide +kernel⟩
set_option maxRecDepth 100000 in
theorem cq14_29 : am_CP 14 (29, 0, 1, mX11_told) := ⟨moX11_told, fun _ => wr7 _ (List.mem_of_getElem? (i := 1) rfl), fun h => absurd h (by decide), fun _ => wr7 _ (List.mem_of_getElem? (i := 2) rfl), fun _ => wr7 _ (List.mem_of_getElem? (i := 3) rfl), fun h => absurd h (by decide), fun h => absurd h (by decide), by decide +kernel⟩
set_option maxRecDepth 100000 in
theorem cq14_32 : am_CP 14 (32, 0, 3, mX11_lay) := ⟨moX11_lay, fun _ => wr11 _ (List.mem_of_getElem? (i := 16) rfl), fun h => absurd h (by decide), fun _ => wr11 _ (List.mem_of_getElem? (i := 17) rfl), fun _ => wr11 _ (List.mem_of_getElem? (i := 18) rfl), fun h => absurd h (by decide), fun h => absurd h (by decide), by decide +kernel⟩
set_option maxRecDepth 100000 in
theorem cq14_36 : am_CP 14 (36, 0, 2, mX11_set) := ⟨moX11_set, fun _ => wr14 _ (List.mem_of_getElem? (i := 1) rfl), fun h => absurd h (by decide), fun _ => wr14 _ (List.mem_of_getElem? (i := 2) rfl), fun _ => wr14 _ (List.mem_of_getElem? (i := 3) rfl), fun h => absurd h (by decide), fun h => absurd h (by decide), by decide +kernel⟩
set_option maxRecDepth 100000 in
theorem cq14_40 : am_CP 14 (40, 0, 2, mX11_control) := ⟨moX11_control, fun _ => wr14 _ (List.mem_of_getElem? (i := 14) rfl), fun h => absurd h (by decide), fun _ => wr14 _ (List.mem_of_getElem? (i := 15) rfl), fun _ => wr14 _ (List.mem_of_getElem? (i := 16) rfl), fun h => absurd h (by decide), fun h => absurd h (by decide), by decide +kernel⟩
set_option maxRecDepth 100000 in
theorem cq14_43 : am_CP 14 (43, 0, 1, mX11_take) := ⟨moX11_take, fun _ => wr14 _ (List.mem_of_getElem? (i := 23) rfl), fun h => absurd h (by decide), fun _ => wr15 _ (List.mem_of_getElem? (i := 0) rfl), fun _ => wr15 _ (List.mem_of_getElem? (i := 1) rfl), fun h => absurd h (by decide), fun h => absurd h (by decide), by decide +kernel⟩
set_option maxRecDepth 100000 in
theorem cq14_46 : am_CP 14 (46, 0, 2, mX11_move) := ⟨moX11_move, fun _ => wr15 _ (List.mem_of_getElem? (i := 20) rfl), fun h => absurd h (by decide), fun _ => wr15 _ (List.mem_of_getElem? (i := 21) rfl), fun _ => wr15 _ (List.mem_of_getElem? (i := 22) rfl), fun h => absurd h (by decide), fun h => absurd h (by decide), by decide +kernel⟩
set_option maxRecDepth 100000 in
theorem cq14_49 : am_CP 14 (49, 0, 3, mX11_repunch) := ⟨moX11_repunch, fun _ => wr16 _ (List.mem_of_getElem? (i := 4) rfl), fun h => absurd h (by decide), fun _ => wr16 _ (List.mem_of_getElem? (i := 5) rfl), fun _ => wr16 _ (List.mem_of_getElem? (i := 6) rfl), fun h => absurd h (by decide), fun h => absurd h (by decide), by decide +kernel⟩
set_option maxRecDepth 100000 in
theorem cq14_52 : am_CP 14 (52, 0, 3, mX11_mark) := ⟨moX11_mark, fun _ => wr16 _ (List.mem_of_getElem? (i := 14) rfl), fun h => absurd h (by decide), fun _ => wr16 _ (List.mem_of_getElem? (i := 15) rfl), fun _ => wr16 _ (List.mem_of_getElem? (i := 16) rfl), fun h => absurd h (by decide), fun h => absurd h (by decide), by decide +kernel⟩
set_option maxRecDepth 100000 in
theorem cq14_55 : am_CP 14 (55, 0, 1, mX11_pass) := ⟨moX11_pass, fun _ => wr16 _ (List.mem_of_getElem? (i := 20) rfl), fun h => absurd h (by decide), fun _ => wr16 _ (List.mem_of_getElem? (i := 21) rfl), fun _ => wr16 _ (List.mem_of_getElem? (i := 22) rfl), fun h => absurd h (by decide), fun h => absurd h (by decide), by decide +kernel⟩
set_option maxRecDepth 100000 in
theorem cq14_58 : am_CP 14 (58, 0, 1, mX11_sort) := ⟨moX11_sort, fun _ => wr17 _ (List.mem_of_getElem? (i := 18) rfl), fun h => absurd h (by decide), fun _ => wr17 _ (List.mem_of_getElem? (i := 19) rfl), fun _ => wr17 _ (List.mem_of_getElem? (i := 20) rfl), fun h => absurd h (by decide), fun h => absurd h (by decide), by decide +kernel⟩
set_option maxRecDepth 100000 in
theorem cq14_61 : am_CP 14 (61, 0, 0, mX11_run) := ⟨moX11_run, fun _ => wr17 _ (List.mem_of_getElem? (i := 23) rfl), fun h => absurd h (by decide), fun _ => wr18 _ (List.mem_of_getElem? (i := 0) rfl), fun _ => wr18 _ (List.mem_of_getElem? (i := 1) rfl), fun h => absurd h (by decide), fun h => absurd h (by decide), by decide +kernel⟩
set_option maxRecDepth 100000 in
theorem cq14_64 : am_CP 14 (64, 0, 0, mX11_undo) := ⟨moX11_undo, fun _ => wr23 _ (List.mem_of_getElem? (i := 8) rfl), fun h => absurd h (by decide), fun _ => wr23 _ (List.mem_of_getElem? (i := 9) rfl), fun _ => wr23 _ (List.mem_of_getElem? (i := 10) rfl), fun h => absurd h (by decide), fun h => absurd h (by decide), by decide +kernel⟩
set_option maxRecDepth 100000 in
theorem cq14_67 : am_CP 14 (67, 0, 1, mX11_keep) := ⟨moX11_keep, fun _ => wr23 _ (List.mem_of_getElem? (i := 21) rfl), fun h => absurd h (by decide), fun _ => wr23 _ (List.mem_of_getElem? (i := 22) rfl), fun _ => wr23 _ (List.mem_of_getElem? (i := 23) rfl), fun h => absurd h (by decide), fun h => absurd h (by decide), by decide +kernel⟩
set_option maxRecDepth 100000 in
theorem cq14_70 : am_CP 14 (70, 0, 1, mX11_back) := ⟨moX11_back, fun _ => wr24 _ (List.mem_of_getElem? (i := 2) rfl), fun h => absurd h (by decide), fun _ => wr24 _ (List.mem_of_getElem? (i := 3) rfl), fun _ => wr24 _ (List.mem_of_getElem? (i := 4) rfl), fun h => absurd h (by decide), fun h => absurd h (by decide), by decide +kernel⟩
set_option maxRecDepth 100000 in
theorem cq14_73 : am_CP 14 (73, 1, 2, mL_write) := ⟨moL_write, fun _ => wr24 _ (List.mem_of_getElem? (i := 6) rfl), fun h => absurd h (by decide), fun h => absurd h (by decide), fun h => absurd h (by decide), fun _ => wr24 _ (List.mem_of_getElem? (i := 7) rfl), fun h => absurd h (by decide), by decide +kernel⟩
set_option maxRecDepth 100000 in
theorem cq14_76 : am_CP 14 (76, 0, 1, mX11_punch) := ⟨moX11_punch, fun _ => wr25 _ (List.mem_of_getElem? (i := 5) rfl), fun h => absurd h (by decide), fun _ => wr25 _ (List.mem_of_getElem? (i := 6) rfl), fun _ => wr25 _ (List.mem_of_getElem? (i := 7) rfl), fun h => absurd h (by decide), fun h => absurd h (by decide), by decide +kernel⟩
set_option maxRecDepth 100000 in
theorem cq14_79 : am_CP 14 (79, 0, 0, mX11_agrees) := ⟨moX11_agrees, fun _ => wr28 _ (List.mem_of_getElem? (i := 0) rfl), fun h => absurd h (by decide), fun _ => wr28 _ (List.mem_of_getElem? (i := 1) rfl), fun _ => wr28 _ (List.mem_of_getElem? (i := 2) rfl), fun h => absurd h (by decide), fun h => absurd h (by decide), by decide +kernel⟩
set_option maxRecDepth 100000 in
theorem cq14_82 : am_CP 14 (82, 0, 0, mX11_mean) := ⟨moX11_mean, fun _ => wr29 _ (List.mem_of_getElem? (i := 20) rfl), fun h => absurd h (by decide), fun _ => wr29 _ (List.mem_of_getElem? (i := 21) rfl), fun _ => wr29 _ (List.mem_of_getElem? (i := 22) rfl), fun h => absurd h (by decide), fun h => absurd h (by decide), by decide +kernel⟩
set_option maxRecDepth 100000 in
theorem cq14_86 : am_CP 14 (86, 0, 2, mX11_again) := ⟨moX11_again, fun _ => wr30 _ (List.mem_of_getElem? (i := 1) rfl), fun h => absurd h (by decide), fun _ => wr30 _ (List.mem_of_getElem? (i := 2) rfl), fun _ => wr30 _ (List.mem_of_getElem? (i := 3) rfl), fun h => absurd h (by decide), fun h => absurd h (by decide), by decide +kernel⟩
set_option maxRecDepth 100000 in
theorem cq14_89 : am_CP 14 (89, 0, 2, mX11_line) := ⟨moX11_line, fun _ => wr30 _ (List.mem_of_getElem? (i := 5) rfl), fun h => absurd h (by decide), fun _ => wr30 _ (List.mem_of_getElem? (i := 6) rfl), fun _ => wr30 _ (List.mem_of_getElem? (i := 7) rfl), fun h => absurd h (by decide), fun h => absurd h (by decide), by decide +kernel⟩
set_option maxRecDepth 100000 in
theorem cq14_92 : am_CP 14 (92, 0, 1, mX11_reason) := ⟨moX11_reason, fun _ => wr30 _ (List.mem_of_getElem? (i := 11) rfl), fun h => absurd h (by decide), fun _ => wr30 _ (List.mem_of_getElem? (i := 12) rfl), fun _ => wr30 _ (List.mem_of_getElem? (i := 13) rfl), fun h => absurd h (by decide), fun h => absurd h (by decide), by decide +kernel⟩
set_option maxRecDepth 100000 in
theorem cq14_96 : am_CP 14 (96, 0, 2, mX11_ranked) := ⟨moX11_ranked, fun _ => wr30 _ (List.mem_of_getElem? (i := 20) rfl), fun h => absurd h (by decide), fun _ => wr30 _ (List.mem_of_getElem? (i := 21) rfl), fun _ => wr30 _ (List.mem_of_getElem? (i := 22) rfl), fun h => absurd h (by decide), fun h => absurd h (by decide), by decide +kernel⟩
set_option maxRecDepth 100000 in
theorem cq14_99 : am_CP 14 (99, 0, 1, mX11_differs) := ⟨moX11_differs, fun _ => wr31 _ (List.mem_of_getElem? (i := 20) rfl), fun h => absurd h (by decide), fun _ => wr31 _ (List.mem_of_getElem? (i := 21) rfl), fun _ => wr31 _ (List.mem_of_getElem? (i := 22) rfl), fun h => absurd h (by decide), fun h => absurd h (by decide), by decide +kernel⟩
set_option maxRecDepth 100000 in
theorem cq14_102 : am_CP 14 (102, 0, 0, mX11_passes) := ⟨moX11_passes, fun _ => wr32 _ (List.mem_of_getElem? (i := 12) rfl), fun h => absurd h (by decide), fun _ => wr32 _ (List.mem_of_getElem? (i := 13) rfl), fun _ => wr32 _ (List.mem_of_getElem? (i := 14) rfl), fun h => absurd h (by decide), fun h => absurd h (by decide), by decide +kernel⟩
set_option maxRecDepth 100000 in
theorem cq14_105 : am_CP 14 (105, 0, 1, mX11_accepts) := ⟨moX11_accepts, fun _ => wr32 _ (List.mem_of_getElem? (i := 23) rfl), fun h => absurd h (by decide), fun _ => wr33 _ (List.mem_of_getElem? (i := 0) rfl), fun _ => wr33 _ (List.mem_of_getElem? (i := 1) rfl), fun h => absurd h (by decide), fun h => absurd h (by decide), by decide +kernel⟩
set_option maxRecDepth 100000 in
theorem cq14_108 : am_CP 14 (108, 0, 2, mX11_card) := ⟨moX11_card, fun _ => wr33 _ (List.mem_of_getElem? (i := 3) rfl), fun h => absurd h (by decide), fun _ => wr33 _ (List.mem_of_getElem? (i := 4) rfl), fun _ => wr33 _ (List.mem_of_getElem? (i := 5) rfl), fun h => absurd h (by decide), fun h => absurd h (by decide), by decide +kernel⟩
set_option maxRecDepth 100000 in
theorem cq14_111 : am_CP 14 (111, 0, 1, mX11_setting) := ⟨moX11_setting, fun _ => wr33 _ (List.mem_of_getElem? (i := 7) rfl), fun h => absurd h (by decide), fun _ => wr33 _ (List.mem_of_getElem? (i := 8) rfl), fun _ => wr33 _ (List.mem_of_getElem? (i := 9) rfl), fun h => absurd h (by decide), fun h => absurd h (by decide), by decide +kernel⟩
set_option maxRecDepth 100000 in
theorem cq14_114 : am_CP 14 (114, 2, 0, mX11_init) := ⟨moX11_init, fun _ => wr1 _ (List.mem_of_getElem? (i := 3) rfl), fun h => absurd h (by decide), fun _ => wr1 _ (List.mem_of_getElem? (i := 4) rfl), fun h => absurd h (by decide), fun h => absurd h (by decide), fun _ => ⟨rfl, rfl⟩, by decide +kernel⟩
set_option maxRecDepth 100000 in
theorem cq14_115 : am_CP 14 (115, 1, 2, mL_cell) := ⟨moL_cell, fun _ => wr6 _ (List.mem_of_getElem? (i := 12) rfl), fun h => absurd h (by decide), fun h => absurd h (by decide), fun h => absurd h (by decide), fun _ => wr6 _ (List.mem_of_getElem? (i := 13) rfl), fun h => absurd h (by decide), by decide +kernel⟩
set_option maxRecDepth 100000 in
theorem cq14_119 : am_CP 14 (119, 1, 3, mL_change) := ⟨moL_change, fun _ => wr6 _ (List.mem_of_getElem? (i := 21) rfl), fun h => absurd h (by decide), fun h => absurd h (by decide), fun h => absurd h (by decide), fun _ => wr6 _ (List.mem_of_getElem? (i := 22) rfl), fun h => absurd h (by decide), by decide +kernel⟩
set_option maxRecDepth 100000 in
theorem cq14_122 : am_CP 14 (122, 1, 1, mL_isReport) := ⟨moL_isReport, fun _ => wr27 _ (List.mem_of_getElem? (i := 20) rfl), fun h => absurd h (by decide), fun h => absurd h (by decide), fun h => absurd h (by decide), fun _ => wr27 _ (List.mem_of_getElem? (i := 21) rfl), fun h => absurd h (by decide), by decide +kernel⟩
set_option maxRecDepth 100000 in
theorem cq14_126 : am_CP 14 (126, 1, 1, mL_isAgain) := ⟨moL_isAgain, fun _ => wr30 _ (List.mem_of_getElem? (i := 17) rfl), fun h => absurd h (by decide), fun h => absurd h (by decide), fun h => absurd h (by decide), fun _ => wr30 _ (List.mem_of_getElem? (i := 18) rfl), fun h => absurd h (by decide), by decide +kernel⟩
set_option maxRecDepth 100000 in
theorem cq14_129 : am_CP 14 (129, 1, 1, mL_isSorted) := ⟨moL_isSorted, fun _ => wr32 _ (List.mem_of_getElem? (i := 9) rfl), fun h => absurd h (by decide), fun h => absurd h (by decide), fun h => absurd h (by decide), fun _ => wr32 _ (List.mem_of_getElem? (i := 10) rfl), fun h => absurd h (by decide), by decide +kernel⟩
set_option maxRecDepth 100000 in
theorem cq14_132 : am_CP 14 (132, 1, 2, mL_isAccepted) := ⟨moL_isAccepted, fun _ => wr32 _ (List.mem_of_getElem? (i := 20) rfl), fun h => absurd h (by decide), fun h => absurd h (by decide), fun h => absurd h (by decide), fun _ => wr32 _ (List.mem_of_getElem? (i := 21) rfl), fun h => absurd h (by decide), by decide +kernel⟩
set_option maxRecDepth 100000 in
theorem cq14_136 : am_CP 14 (136, 1, 2, mL_areAlike) := ⟨moL_areAlike, fun _ => wr33 _ (List.mem_of_getElem? (i := 11) rfl), fun h => absurd h (by decide), fun h => absurd h (by decide), fun h => absurd h (by decide), fun _ => wr33 _ (List.mem_of_getElem? (i := 12) rfl), fun h => absurd h (by decide), by decide +kernel⟩
set_option maxRecDepth 100000 in
theorem am_callP0 : ∀ e ∈ (am_callL 0), am_CP 0 e := List.forall_mem_cons.mpr ⟨cq0_15, List.forall_mem_cons.mpr ⟨cq0_26, List.forall_mem_cons.mpr ⟨cq0_30, List.forall_mem_cons.mpr ⟨cq0_40, fun _ h => absurd h List.not_mem_nil⟩⟩⟩⟩
set_option maxRecDepth 100000 in
theorem am_callP1 : ∀ e ∈ (am_callL 1), am_CP 1 e := List.forall_mem_cons.mpr ⟨cq1_17, List.forall_mem_cons.mpr ⟨cq1_26, List.forall_mem_cons.mpr ⟨cq1_30, List.forall_mem_cons.mpr ⟨cq1_33, List.forall_mem_cons.mpr ⟨cq1_37, List.forall_mem_cons.mpr ⟨cq1_41, List.forall_mem_cons.mpr ⟨cq1_45, fun _ h => absurd h List.not_mem_nil⟩⟩⟩⟩⟩⟩⟩
set_option maxRecDepth 100000 in
theorem am_callP2 : ∀ e ∈ (am_callL 2), am_CP 2 e := List.forall_mem_cons.mpr ⟨cq2_21, List.forall_mem_cons.mpr ⟨cq2_25, List.forall_mem_cons.mpr ⟨cq2_32, List.forall_mem_cons.mpr ⟨cq2_38, fun _ h => absurd h List.not_mem_nil⟩⟩⟩⟩
set_option maxRecDepth 100000 in
theorem am_callP3 : ∀ e ∈ (am_callL 3), am_CP 3 e := List.forall_mem_cons.mpr ⟨cq3_18, List.forall_mem_cons.mpr ⟨cq3_22, List.forall_mem_cons.mpr ⟨cq3_26, List.forall_mem_cons.mpr ⟨cq3_29, List.forall_mem_cons.mpr ⟨cq3_35, List.forall_mem_cons.mpr ⟨cq3_39, List.forall_mem_cons.mpr ⟨cq3_44, fun _ h => absurd h List.not_mem_nil⟩⟩⟩⟩⟩⟩⟩
set_option maxRecDepth 100000 in
theorem am_callP4 : ∀ e ∈ (am_callL 4), am_CP 4 e := List.forall_mem_cons.mpr ⟨cq4_11, List.forall_mem_cons.mpr ⟨cq4_27, List.forall_mem_cons.mpr ⟨cq4_34, List.forall_mem_cons.mpr ⟨cq4_38, List.forall_mem_cons.mpr ⟨cq4_42, List.forall_mem_cons.mpr ⟨cq4_48, List.forall_mem_cons.mpr ⟨cq4_52, List.forall_mem_cons.mpr ⟨cq4_56, List.forall_mem_cons.mpr ⟨cq4_59, List.forall_mem_cons.mpr ⟨cq4_70, List.forall_mem_cons.mpr ⟨cq4_74, fun _ h => absurd h List.not_mem_nil⟩⟩⟩⟩⟩⟩⟩⟩⟩⟩⟩
set_option maxRecDepth 100000 in
theorem am_callP5 : ∀ e ∈ (am_callL 5), am_CP 5 e := List.forall_mem_cons.mpr ⟨cq5_34, List.forall_mem_cons.mpr ⟨cq5_39, List.forall_mem_cons.mpr ⟨cq5_43, List.forall_mem_cons.mpr ⟨cq5_47, List.forall_mem_cons.mpr ⟨cq5_50, List.forall_mem_cons.mpr ⟨cq5_53, fun _ h => absurd h List.not_mem_nil⟩⟩⟩⟩⟩⟩
set_option maxRecDepth 100000 in
theorem am_callP6 : ∀ e ∈ (am_callL 6), am_CP 6 e := List.forall_mem_cons.mpr ⟨cq6_17, List.forall_mem_cons.mpr ⟨cq6_34, List.forall_mem_cons.mpr ⟨cq6_38, List.forall_mem_cons.mpr ⟨cq6_42, List.forall_mem_cons.mpr ⟨cq6_46, List.forall_mem_cons.mpr ⟨cq6_50, List.forall_mem_cons.mpr ⟨cq6_54, List.forall_mem_cons.mpr ⟨cq6_61, List.forall_mem_cons.mpr ⟨cq6_65, List.forall_mem_cons.mpr ⟨cq6_69, List.forall_mem_cons.mpr ⟨cq6_75, List.forall_mem_cons.mpr ⟨cq6_91, List.forall_mem_cons.mpr ⟨cq6_95, fun _ h => absurd h List.not_mem_nil⟩⟩⟩⟩⟩⟩⟩⟩⟩⟩⟩⟩⟩
set_option maxRecDepth 100000 in
theorem am_callP7 : ∀ e ∈ (am_callL 7), am_CP 7 e := List.forall_mem_cons.mpr ⟨cq7_27, List.forall_mem_cons.mpr ⟨cq7_43, List.forall_mem_cons.mpr ⟨cq7_47, List.forall_mem_cons.mpr ⟨cq7_51, List.forall_mem_cons.mpr ⟨cq7_61, List.forall_mem_cons.mpr ⟨cq7_65, List.forall_mem_cons.mpr ⟨cq7_69, List.forall_mem_cons.mpr ⟨cq7_75, fun _ h => absurd h List.not_mem_nil⟩⟩⟩⟩⟩⟩⟩⟩
set_option maxRecDepth 100000 in
theorem am_callP8 : ∀ e ∈ (am_callL 8), am_CP 8 e := List.forall_mem_cons.mpr ⟨cq8_11, List.forall_mem_cons.mpr ⟨cq8_20, List.forall_mem_cons.mpr ⟨cq8_27, List.forall_mem_cons.mpr ⟨cq8_40, List.forall_mem_cons.mpr ⟨cq8_44, List.forall_mem_cons.mpr ⟨cq8_48, List.forall_mem_cons.mpr ⟨cq8_51, fun _ h => absurd h List.not_mem_nil⟩⟩⟩⟩⟩⟩⟩
set_option maxRecDepth 100000 in
theorem am_callP9 : ∀ e ∈ (am_callL 9), am_CP 9 e := List.forall_mem_cons.mpr ⟨cq9_35, List.forall_mem_cons.mpr ⟨cq9_39, List.forall_mem_cons.mpr ⟨cq9_43, List.forall_mem_cons.mpr ⟨cq9_47, List.forall_mem_cons.mpr ⟨cq9_51, List.forall_mem_cons.mpr ⟨cq9_54, List.forall_mem_cons.mpr ⟨cq9_57, List.forall_mem_cons.mpr ⟨cq9_60, List.forall_mem_cons.mpr ⟨cq9_63, List.forall_mem_cons.mpr ⟨cq9_67, List.forall_mem_cons.mpr ⟨cq9_71, List.forall_mem_cons.mpr ⟨cq9_76, List.forall_mem_cons.mpr ⟨cq9_79, List.forall_mem_cons.mpr ⟨cq9_83, List.forall_mem_cons.mpr ⟨cq9_86, fun _ h => absurd h List.not_mem_nil⟩⟩⟩⟩⟩⟩⟩⟩⟩⟩⟩⟩⟩⟩⟩
set_option maxRecDepth 100000 in
theorem am_callP10 : ∀ e ∈ (am_callL 10), am_CP 10 e := List.forall_mem_cons.mpr ⟨cq10_23, List.forall_mem_cons.mpr ⟨cq10_42, fun _ h => absurd h List.not_mem_nil⟩⟩
set_option maxRecDepth 100000 in
theorem am_callP11 : ∀ e ∈ (am_callL 11), am_CP 11 e := List.forall_mem_cons.mpr ⟨cq11_11, List.forall_mem_cons.mpr ⟨cq11_18, List.forall_mem_cons.mpr ⟨cq11_29, List.forall_mem_cons.mpr ⟨cq11_36, List.forall_mem_cons.mpr ⟨cq11_43, List.forall_mem_cons.mpr ⟨cq11_50, List.forall_mem_cons.mpr ⟨cq11_57, List.forall_mem_cons.mpr ⟨cq11_64, List.forall_mem_cons.mpr ⟨cq11_69, List.forall_mem_cons.mpr ⟨cq11_73, List.forall_mem_cons.mpr ⟨cq11_78, List.forall_mem_cons.mpr ⟨cq11_86, List.forall_mem_cons.mpr ⟨cq11_92, List.forall_mem_cons.mpr ⟨cq11_96, List.forall_mem_cons.mpr ⟨cq11_103, List.forall_mem_cons.mpr ⟨cq11_106, List.forall_mem_cons.mpr ⟨cq11_112, List.forall_mem_cons.mpr ⟨cq11_124, List.forall_mem_cons.mpr ⟨cq11_130, List.forall_mem_cons.mpr ⟨cq11_136, List.forall_mem_cons.mpr ⟨cq11_140, List.forall_mem_cons.mpr ⟨cq11_144, List.forall_mem_cons.mpr ⟨cq11_148, List.forall_mem_cons.mpr ⟨cq11_152, List.forall_mem_cons.mpr ⟨cq11_155, List.forall_mem_cons.mpr ⟨cq11_159, List.forall_mem_cons.mpr ⟨cq11_167, List.forall_mem_cons.mpr ⟨cq11_170, List.forall_mem_cons.mpr ⟨cq11_173, List.forall_mem_cons.mpr ⟨cq11_183, List.forall_mem_cons.mpr ⟨cq11_187, List.forall_mem_cons.mpr ⟨cq11_191, List.forall_mem_cons.mpr ⟨cq11_195, List.forall_mem_cons.mpr ⟨cq11_202, List.forall_mem_cons.mpr ⟨cq11_206, List.forall_mem_cons.mpr ⟨cq11_208, List.forall_mem_cons.mpr ⟨cq11_212, List.forall_mem_cons.mpr ⟨cq11_216, List.forall_mem_cons.mpr ⟨cq11_220, List.forall_mem_cons.mpr ⟨cq11_223, List.forall_mem_cons.mpr ⟨cq11_224, List.forall_mem_cons.mpr ⟨cq11_225, List.forall_mem_cons.mpr ⟨cq11_228, List.forall_mem_cons.mpr ⟨cq11_240, List.forall_mem_cons.mpr ⟨cq11_241, List.forall_mem_cons.mpr ⟨cq11_244, List.forall_mem_cons.mpr ⟨cq11_247, List.forall_mem_cons.mpr ⟨cq11_250, List.forall_mem_cons.mpr ⟨cq11_254, List.forall_mem_cons.mpr ⟨cq11_257, List.forall_mem_cons.mpr ⟨cq11_258, List.forall_mem_cons.mpr ⟨cq11_262, List.forall_mem_cons.mpr ⟨cq11_265, List.forall_mem_cons.mpr ⟨cq11_268, List.forall_mem_cons.mpr ⟨cq11_271, List.forall_mem_cons.mpr ⟨cq11_274, List.forall_mem_cons.mpr ⟨cq11_277, List.forall_mem_cons.mpr ⟨cq11_278, List.forall_mem_cons.mpr ⟨cq11_281, List.forall_mem_cons.mpr ⟨cq11_298, List.forall_mem_cons.mpr ⟨cq11_301, List.forall_mem_cons.mpr ⟨cq11_305, List.forall_mem_cons.mpr ⟨cq11_310, List.forall_mem_cons.mpr ⟨cq11_314, List.forall_mem_cons.mpr ⟨cq11_318, List.forall_mem_cons.mpr ⟨cq11_321, List.forall_mem_cons.mpr ⟨cq11_324, List.forall_mem_cons.mpr ⟨cq11_328, List.forall_mem_cons.mpr ⟨cq11_332, List.forall_mem_cons.mpr ⟨cq11_339, fun _ h => absurd h List.not_mem_nil⟩⟩⟩⟩⟩⟩⟩⟩⟩⟩⟩⟩⟩⟩⟩⟩⟩⟩⟩⟩⟩⟩⟩⟩⟩⟩⟩⟩⟩⟩⟩⟩⟩⟩⟩⟩⟩⟩⟩⟩⟩⟩⟩⟩⟩⟩⟩⟩⟩⟩⟩⟩⟩⟩⟩⟩⟩⟩⟩⟩⟩⟩⟩⟩⟩⟩⟩⟩⟩⟩
set_option maxRecDepth 100000 in
theorem am_callP14 : ∀ e ∈ (am_callL 14), am_CP 14 e := List.forall_mem_cons.mpr ⟨cq14_9, List.forall_mem_cons.mpr ⟨cq14_15, List.forall_mem_cons.mpr ⟨cq14_19, List.forall_mem_cons.mpr ⟨cq14_25, List.forall_mem_cons.mpr ⟨cq14_29, List.forall_mem_cons.mpr ⟨cq14_32, List.forall_mem_cons.mpr ⟨cq14_36, List.forall_mem_cons.mpr ⟨cq14_40, List.forall_mem_cons.mpr ⟨cq14_43, List.forall_mem_cons.mpr ⟨cq14_46, List.forall_mem_cons.mpr ⟨cq14_49, List.forall_mem_cons.mpr ⟨cq14_52, List.forall_mem_cons.mpr ⟨cq14_55, List.forall_mem_cons.mpr ⟨cq14_58, List.forall_mem_cons.mpr ⟨cq14_61, List.forall_mem_cons.mpr ⟨cq14_64, List.forall_mem_cons.mpr ⟨cq14_67, List.forall_mem_cons.mpr ⟨cq14_70, List.forall_mem_cons.mpr ⟨cq14_73, List.forall_mem_cons.mpr ⟨cq14_76, List.forall_mem_cons.mpr ⟨cq14_79, List.forall_mem_cons.mpr ⟨cq14_82, List.forall_mem_cons.mpr ⟨cq14_86, List.forall_mem_cons.mpr ⟨cq14_89, List.forall_mem_cons.mpr ⟨cq14_92, List.forall_mem_cons.mpr ⟨cq14_96, List.forall_mem_cons.mpr ⟨cq14_99, List.forall_mem_cons.mpr ⟨cq14_102, List.forall_mem_cons.mpr ⟨cq14_105, List.forall_mem_cons.mpr ⟨cq14_108, List.forall_mem_cons.mpr ⟨cq14_111, List.forall_mem_cons.mpr ⟨cq14_114, List.forall_mem_cons.mpr ⟨cq14_115, List.forall_mem_cons.mpr ⟨cq14_119, List.forall_mem_cons.mpr ⟨cq14_122, List.forall_mem_cons.mpr ⟨cq14_126, List.forall_mem_cons.mpr ⟨cq14_129, List.forall_mem_cons.mpr ⟨cq14_132, List.forall_mem_cons.mpr ⟨cq14_136, fun _ h => absurd h List.not_mem_nil⟩⟩⟩⟩⟩⟩⟩⟩⟩⟩⟩⟩⟩⟩⟩⟩⟩⟩⟩⟩⟩⟩⟩⟩⟩⟩⟩⟩⟩⟩⟩⟩⟩⟩⟩⟩⟩⟩⟩
theorem am_callP (c : Nat) : ∀ e ∈ am_callL c, am_CP c e := by
  match c with
  | 0 => exact am_callP0
  | 1 => exact am_callP1
  | 2 => exact am_callP2
  | 3 => exact am_callP3
  | 4 => exact am_callP4
  | 5 => exact am_callP5
  | 6 => exact am_callP6
  | 7 => exact am_callP7
  | 8 => exact am_callP8
  | 9 => exact am_callP9
  | 10 => exact am_callP10
  | 11 => exact am_callP11
  | 12 => exact fun _ h => absurd h List.not_mem_nil
  | 13 => exact fun _ h => absurd h List.not_mem_nil
  | 14 => exact am_callP14
  | _ + 15 => exact fun _ h => absurd h List.not_mem_nil
def am_CL (ci : Nat) (r : vw_C) : Prop := (∀ w ∈ u_ws r.1 r.2.1 r.2.2, w ∈ wsL_law) ∧ (∀ k, k < r.2.2 → parseFieldDescriptor (r.2.1 k).2.2.1 = some (am_tys ci k)) ∧ (∀ a, a < r.2.2 → ∀ b, b < r.2.2 → a ≠ b → (r.2.1 a).2.1 ≠ (r.2.1 b).2.1) ∧ r.1 = am_cn ci
theorem am_clP (ci : Nat) (r : vw_C) (h : vwCl[ci]? = some r) : am_CL ci r := by
  match ci, h with
  | 0, h => cases h; exact ⟨inlX0, tyX0_ok, nmX0, rfl⟩
  | 1, h => cases h; exact ⟨inlX1, tyX1_ok, nmX1, rfl⟩
  | 2, h => cases h; exact ⟨inlX2, tyX2_ok, nmX2, rfl⟩
  | 3, h => cases h; exact ⟨inlX3, tyX3_ok, nmX3, rfl⟩
  | 4, h => cases h; exact ⟨inlX4, tyX4_ok, nmX4, rfl⟩
  | 5, h => cases h; exact ⟨inlX5, tyX5_ok, nmX5, rfl⟩
  | 6, h => cases h; exact ⟨inlX6, tyX6_ok, nmX6, rfl⟩
  | 7, h => cases h; exact ⟨inlX7, tyX7_ok, nmX7, rfl⟩
  | 8, h => cases h; exact ⟨inlX8, tyX8_ok, nmX8, rfl⟩
  | 9, h => cases h; exact ⟨inlX9, tyX9_ok, nmX9, rfl⟩
  | 10, h => cases h; exact ⟨inlX10, tyX10_ok, nmX10, rfl⟩
  | 11, h => cases h; exact ⟨inlX11, tyX11_ok, nmX11, rfl⟩
  | n + 12, h => simp [vwCl] at h
set_option maxRecDepth 100000 in
theorem am_good : ∀ w ∈ wsL_law, (w.onTables && w.keeps) = true ∨ ∃ ty, w = .arrayClass ty := fun w h => good_of_word (List.all_eq_true.mp (show wsL_law.all goodWord = true by decide +kernel) w h)
end
section
/-! what a small heap says of the machine's -/
theorem am_tail_len (v : Value) (l : am_L) : (am_tail v l).length = l.length := by
  unfold am_tail
  split
  · cases l <;> rfl
  · rfl
theorem am_set_nil (v : Value) (i : Nat) : am_set v i [] = [] := by
  match i with
  | 0 => rfl
  | 1 => rfl
  | _ + 2 => rfl
theorem am_set_len (v : Value) : ∀ (i : Nat) (l : am_L), (am_set v i l).length = l.length
  | i, [] => by rw [am_set_nil]
  | 0, _ :: l => by show (am_tail v l).length + 1 = _; rw [am_tail_len]; rfl
  | 1, o :: l => by show (am_set v 0 l).length + 1 = _; rw [am_set_len v 0 l]; rfl
  | i + 2, o :: l => by show (am_set v (i + 1) l).length + 1 = _; rw [am_set_len v (i + 1) l]; rfl
theorem am_kill_sp {o : Option Value} {w : Value} (h : am_kill o = some w) : o = some w ∧ ¬ w.category = 2 := by
  cases o with
  | none => cases h
  | some x =>
    unfold am_kill at h
    dsimp only at h
    split at h
    · cases h
    · cases h; exact ⟨rfl, by assumption⟩
theorem am_tail_sp {v : Value} {l : am_L} {k : Nat} {w : Value} (h : (am_tail v l)[k]? = some (some w)) : l[k]? = some (some w) ∧ (v.category = 2 → k ≠ 0) := by
  unfold am_tail at h
  split at h
  · cases l with
    | nil => simp at h
    | cons x l =>
      dsimp only at h
      cases k with
      | zero => simp at h
      | succ k => exact ⟨by simpa using h, fun _ => by omega⟩
  · exact ⟨h, fun q => absurd q (by assumption)⟩
theorem am_set_sp (v : Value) : ∀ (i : Nat) (l : am_L) (k : Nat) (w : Value), (am_set v i l)[k]? = some (some w) → (k = i ∧ w = v) ∨ (l[k]? = some (some w) ∧ k ≠ i ∧ ¬ (k + 1 = i ∧ w.category = 2) ∧ (v.category = 2 → k ≠ i + 1))
  | i, [], k, w, h => by rw [am_set_nil] at h; simp at h
  | 0, _ :: l, k, w, h => by
    have h : (some v :: am_tail v l)[k]? = some (some w) := h
    cases k with
    | zero => left; simp at h; exact ⟨rfl, h.symm⟩
    | succ k =>
      right
      rw [List.getElem?_cons_succ] at h
      obtain ⟨h1, h2⟩ := am_tail_sp h
      exact ⟨by rw [List.getElem?_cons_succ]; exact h1, by omega, by omega, fun q => by have := h2 q; omega⟩
  | 1, o :: l, k, w, h => by
    have h : (am_kill o :: am_set v 0 l)[k]? = some (some w) := h
    cases k with
    | zero =>
      right
      have h : am_kill o = some w := by simpa using h
      obtain ⟨h1, h2⟩ := am_kill_sp h
      exact ⟨by rw [h1]; rfl, by omega, fun q => h2 q.2, fun _ => by omega⟩
    | succ k =>
      rw [List.getElem?_cons_succ] at h
      rcases am_set_sp v 0 l k w h with ⟨a, b⟩ | ⟨a, b, c, d⟩
      · left; exact ⟨by omega, b⟩
      · right
        exact ⟨by rw [List.getElem?_cons_succ]; exact a, by omega, by omega, fun q => by have := d q; omega⟩
  | i + 2, o :: l, k, w, h => by
    have h : (o :: am_set v (i + 1) l)[k]? = some (some w) := h
    cases k with
    | zero => right; exact ⟨by simpa using h, by omega, by omega, fun _ => by omega⟩
    | succ k =>
      rw [List.getElem?_cons_succ] at h
      rcases am_set_sp v (i + 1) l k w h with ⟨a, b⟩ | ⟨a, b, c, d⟩
      · left; exact ⟨by omega, b⟩
      · right
        exact ⟨by rw [List.getElem?_cons_succ]; exact a, by omega, fun q => c ⟨by omega, q.2⟩, fun q => by have := d q; omega⟩
def am_al (ls : am_L) : List (Nat × Value) := ls.zipIdx.filterMap (fun q => q.1.map (fun v => (q.2, v)))
theorem am_al_mem {ls : am_L} {q : Nat × Value} : q ∈ am_al ls ↔ ls[q.1]? = some (some q.2) := by
  unfold am_al
  rw [List.mem_filterMap]
  constructor
  · rintro ⟨⟨o, i⟩, h1, h2⟩
    have h1 := List.mem_zipIdx_iff_getElem?.mp h1
    dsimp only at h1 h2
    cases o with
    | none => cases h2
    | some v => cases h2; exact h1
  · intro h
    exact ⟨(some q.2, q.1), List.mem_zipIdx_iff_getElem?.mpr h, rfl⟩
def am_Has (lsC : Array Slot) (ls : am_L) : Prop := lv_has lsC ls.length (am_al ls)
theorem am_Has.at {lsC : Array Slot} {ls : am_L} (h : am_Has lsC ls) {i : Nat} {v : Value} (hi : ls[i]? = some (some v)) : lsC[i]? = some (.val v) := h.2.2 (i, v) (am_al_mem.mpr hi)
theorem am_Has.set1 {lsC : Array Slot} {ls : am_L} {v : Value} {i : Nat} (h : lv_has lsC ls.length ((i, v) :: (am_al ls).filter (fun q => !(q.1 == i) && !(q.1 + 1 == i && q.2.category == 2)))) : am_Has lsC (am_set v i ls) := by
  refine ⟨by rw [am_set_len]; exact h.1, h.2.1, fun q hq => h.2.2 q ?_⟩
  rcases am_set_sp v i ls q.1 q.2 (am_al_mem.mp hq) with ⟨a, b⟩ | ⟨a, b, c, d⟩
  · obtain ⟨x, y⟩ := q
    dsimp only at a b
    rw [a, b]
    exact List.mem_cons_self
  · refine List.mem_cons_of_mem _ (List.mem_filter.mpr ⟨am_al_mem.mpr a, ?_⟩)
    simp only [Bool.and_eq_true, Bool.not_eq_true', beq_eq_false_iff_ne, ne_eq, Bool.and_eq_false_iff]
    refine ⟨b, ?_⟩
    by_cases e : q.1 + 1 = i
    · right; exact fun z => c ⟨e, z⟩
    · left; exact e
theorem am_Has.set2 {lsC : Array Slot} {ls : am_L} {v : Value} {i : Nat} (hv : v.category = 2) (h : lv_has lsC ls.length ((i, v) :: (am_al ls).filter (fun q => !(q.1 == i) && (!(q.1 == i + 1) && !(q.1 + 1 == i && q.2.category == 2))))) : am_Has lsC (am_set v i ls) := by
  refine ⟨by rw [am_set_len]; exact h.1, h.2.1, fun q hq => h.2.2 q ?_⟩
  rcases am_set_sp v i ls q.1 q.2 (am_al_mem.mp hq) with ⟨a, b⟩ | ⟨a, b, c, d⟩
  · obtain ⟨x, y⟩ := q
    dsimp only at a b
    rw [a, b]
    exact List.mem_cons_self
  · refine List.mem_cons_of_mem _ (List.mem_filter.mpr ⟨am_al_mem.mpr a, ?_⟩)
    simp only [Bool.and_eq_true, Bool.not_eq_true', beq_eq_false_iff_ne, ne_eq, Bool.and_eq_false_iff]
    refine ⟨b, d hv, ?_⟩
    by_cases e : q.1 + 1 = i
    · right; exact fun z => c ⟨e, z⟩
    · left; exact e
abbrev am_g : Type := va_G × (Nat → ClassId) × Nat × Nat
def am_tyA : Nat → FieldType := fun t => match t with
  | 0 => .int
  | 1 => .object "CardTabulator$Card"
  | 2 => .object "CardTabulator$State"
  | _ => .object "CardTabulator$Totals"
def am_at (g : am_g) (U : State) (a : Nat) (c : am_C) (Hc : Heap) : Prop := match c with
  | .inl (t, x) => (t = 9 ∧ a < g.2.2.1 ∧ ∃ (n : Nat) (f : Nat → Int32), x = (n, .inl f) ∧ va_T .int a n (fun j => .int (f j)) (fun q => g.2.2.1 ≤ q) U Hc) ∨ (t < 4 ∧ g.2.2.1 ≤ a ∧ Hc[a]? = some (vp_cell (g.2.1 t) x))
  | .inr (ci, fs) => g.2.2.1 ≤ a ∧ ∃ r : vw_C, vwCl[ci]? = some r ∧ fs.length = r.2.2 ∧ t_OB a (g.1.1 ci) r.2.2 (g.1.2 ci) Hc (vp_V fs)
def am_Kn (g : am_g) (U : State) : Prop := va_K g.1 vwCl [] U ∧ (∀ t, t < 4 → ArrOfT U (g.2.1 t) (am_tyA t) ∧ va_RA U (g.2.1 t) (am_tyA t)) ∧ (∀ t, 0 < t → t < 4 → va_AO (am_cn (am_comp t)) U) ∧ ∀ q ∈ am_nests, va_Nw (.methodLinkNest q.1 q.2.1 q.2.2.1 q.2.2.2) U
def am_Inv (g : am_g) (U : State) (H : am_H) (Hc : Heap) : Prop := Hc.size = H.2.1 ∧ g.2.2.1 ≤ H.2.1 ∧ va_Z "CardTabulator" "MOST_OF_SETTING" "[I" (.ref g.2.2.2) (fun q => g.2.2.1 ≤ q) U Hc ∧ ∀ a c, H.1 a = some c → a < H.2.1 ∧ am_at g U a c Hc
theorem am_Kn.moved {g : am_g} {u U : State} (hW : u.WarmedH U.vm) (h : am_Kn g u) : am_Kn g U :=
  ⟨va_K.moved hW.alike h.1, fun t ht => ⟨arrOfT_moved hW.alike (h.2.1 t ht).1, (h.2.1 t ht).2.moved hW.alike⟩, fun t h0 ht => va_AO.moved hW.alike (h.2.2.1 t h0 ht), fun q hq => va_Nw.warmM hW (h.2.2.2 q hq)⟩
theorem am_Kn.same {g : am_g} {u U : State} (hW : u.vm = U.vm) (h : am_Kn g u) : am_Kn g U :=
  ⟨va_K.moved (hW ▸ Vm.Alike.refl u.vm) h.1, fun t ht => ⟨arrOfT_moved (hW ▸ Vm.Alike.refl u.vm) (h.2.1 t ht).1, (h.2.1 t ht).2.moved (hW ▸ Vm.Alike.refl u.vm)⟩, fun t h0 ht => va_AO.moved (hW ▸ Vm.Alike.refl u.vm) (h.2.2.1 t h0 ht), fun q hq => va_Nw.same rfl hW (h.2.2.2 q hq)⟩
theorem am_at.moved {g : am_g} {u U : State} {a : Nat} {c : am_C} {Hc : Heap} (hvm : u.vm.Alike U.vm) (h : am_at g u a c Hc) : am_at g U a c Hc := by
  rcases c with ⟨t, x⟩ | ⟨ci, fs⟩
  · rcases h with ⟨h1, h2, n, f, h3, h4⟩ | h
    · exact Or.inl ⟨h1, h2, n, f, h3, h4.moved hvm⟩
    · exact Or.inr h
  · exact h
theorem am_at.kept {g : am_g} {U : State} {a : Nat} {c : am_C} {Hc Hc' : Heap} (hq : Hc'[a]? = Hc[a]?) (h : am_at g U a c Hc) : am_at g U a c Hc' := by
  rcases c with ⟨t, x⟩ | ⟨ci, fs⟩
  · rcases h with ⟨h1, h2, n, f, h3, cell, h4, h5⟩ | ⟨h1, h2, h3⟩
    · exact Or.inl ⟨h1, h2, n, f, h3, cell, hq.trans h4, h5⟩
    · exact Or.inr ⟨h1, h2, hq.trans h3⟩
  · obtain ⟨h0, r, h1, h2, h3⟩ := h
    exact ⟨h0, r, h1, h2, h3.kept hq⟩
theorem am_Inv.moved {g : am_g} {u U : State} {H : am_H} {Hc : Heap} (hvm : u.vm.Alike U.vm) (h : am_Inv g u H Hc) : am_Inv g U H Hc :=
  ⟨h.1, h.2.1, va_Z.moved hvm h.2.2.1, fun a c hc => ⟨(h.2.2.2 a c hc).1, (h.2.2.2 a c hc).2.moved hvm⟩⟩
theorem am_Inv.put {g : am_g} {U : State} {H : am_H} {Hc Hc' : Heap} {a : Nat} {c' : am_C} (h : am_Inv g U H Hc) (hz : Hc'.size = Hc.size) (ho : ∀ q, q ≠ a → Hc'[q]? = Hc[q]?) (ha : g.2.2.1 ≤ a) (hl : a < H.2.1) (hc : am_at g U a c' Hc') : am_Inv g U (va_up H.1 a (some c'), H.2.1, H.2.2) Hc' := by
  refine ⟨hz.trans h.1, h.2.1, va_Z.kept h.2.2.1 (fun q _ hq => ho q (fun e => hq (by rw [e]; exact ha))), fun b cb hb => ?_⟩
  have hb : va_up H.1 a (some c') b = some cb := hb
  unfold va_up at hb
  by_cases e : b = a
  · rw [if_pos e] at hb
    cases hb
    subst e
    exact ⟨hl, hc⟩
  · rw [if_neg e] at hb
    exact ⟨(h.2.2.2 b cb hb).1, (h.2.2.2 b cb hb).2.kept (ho b e)⟩
theorem am_Inv.push {g : am_g} {U : State} {H : am_H} {Hc Hc' : Heap} {n : Nat} {c' : am_C} (h : am_Inv g U H Hc) (hz : Hc'.size = Hc.size + 1) (ho : ∀ q, q < Hc.size → Hc'[q]? = Hc[q]?) (hc : am_at g U H.2.1 c' Hc') : am_Inv g U (va_up H.1 H.2.1 (some c'), H.2.1 + 1, n) Hc' := by
  have h1 := h.1
  have h2 := h.2.1
  refine ⟨by rw [hz, h.1], by show g.2.2.1 ≤ H.2.1 + 1; omega, va_Z.kept h.2.2.1 (fun q hq _ => ho q hq), fun b cb hb => ?_⟩
  have hb : va_up H.1 H.2.1 (some c') b = some cb := hb
  unfold va_up at hb
  by_cases e : b = H.2.1
  · rw [if_pos e] at hb
    cases hb
    subst e
    exact ⟨Nat.lt_succ_self _, hc⟩
  · rw [if_neg e] at hb
    have h3 := (h.2.2.2 b cb hb).1
    exact ⟨Nat.lt_succ_of_lt h3, (h.2.2.2 b cb hb).2.kept (ho b (by omega))⟩
theorem am_in {i : Int32} {n : Nat} (h0 : 0 ≤ i) (h1 : i.toNatClampNeg < n) : ¬ (i < 0 ∨ n ≤ i.toNatClampNeg) := by
  rintro (h | h)
  · exact absurd h0 (Int32.not_le.mpr h)
  · omega
theorem am_nlt {i : Int32} (h0 : 0 ≤ i) : ¬ i < 0 := fun h => absurd h0 (Int32.not_le.mpr h)
end
section
section AMS
variable {p : Program} {l : Launch} {e : Env} {R : Room} {s : State} {m : MethodId} {args : Array Value} {below : List Frame} {meth : Method} {c : Code} {Q : State → Prop} {g : am_g} {mi : am_I} {sz0 sl0 : Nat}
def am_Cx (p : Program) (R : Room) (s : State) (m : MethodId) (args : Array Value) (meth : Method) (c : Code) (g : am_g) (mi : am_I) (sz0 : Nat) : Prop :=
  p.tables.exec = Jvm.exec ∧ c.code = mi.2.1 ∧ c.maxLocals = mi.2.2.2.1 ∧ s.vm.findClass (am_cn mi.1) = some m.cls ∧ (∀ w ∈ wsL_law, w.before args s = true) ∧ (am_ini mi = true → meth.name = "<init>") ∧ (R.frames = mi.2.2.2.2.2.1 ∧ R.locals = mi.2.2.2.2.2.2) ∧ am_Kn g s ∧ g.2.2.1 ≤ s.heap.size
/-- from every machine's state that the small one tells, Q is reached -/
def am_K (p : Program) (l : Launch) (e : Env) (R : Room) (s : State) (m : MethodId) (args : Array Value) (below : List Frame) (meth : Method) (c : Code) (Q : State → Prop) (g : am_g) (mi : am_I) (sz0 sl0 : Nat) (pc : Nat) (ls : am_L) (st : List Value) (H : am_H) : Prop :=
  ∀ (lsC : Array Slot) (Hc : Heap) (locs : List Loc), am_Has lsC ls → ls.length = mi.2.2.2.1 → am_Inv g s H Hc → va_S (fun q => g.2.2.1 ≤ q) s.heap Hc locs → sz0 ≤ H.2.1 → sl0 ≤ H.2.2 → W p l e R s m args below meth c Hc locs (H.2.1 - sz0) (H.2.2 - sl0) Q (F0 m pc lsC st)
theorem am_isI_v {v : Value} (h : am_isI v = true) : ∃ x, v = .int x := by cases v <;> first | exact ⟨_, rfl⟩ | cases h
theorem am_isL_v {v : Value} (h : am_isL v = true) : ∃ x, v = .long x := by cases v <;> first | exact ⟨_, rfl⟩ | cases h
theorem am_isD_v {v : Value} (h : am_isD v = true) : ∃ x, v = .double x := by cases v <;> first | exact ⟨_, rfl⟩ | cases h
theorem am_isA_v {v : Value} (h : am_isA v = true) : (∃ x, v = .ref x) ∨ v = .null := by cases v <;> first | exact Or.inl ⟨_, rfl⟩ | exact Or.inr rfl | cases h
theorem am_load_inv {ok : Value → Bool} {i pc : Nat} {ls : am_L} {st : List Value} {H : am_H} {r : Nat × am_L × List Value × am_H} (h : am_load ok i pc ls st H = some r) : ∃ v, ls[i]? = some (some v) ∧ ok v = true ∧ r = (pc, ls, v :: st, H) := by
  unfold am_load at h
  split at h
  · rename_i v hv
    split at h
    · cases h; exact ⟨v, hv, by assumption, rfl⟩
    · cases h
  · cases h
theorem am_store_inv {ok : Value → Bool} {i pc : Nat} {ls : am_L} {st : List Value} {H : am_H} {r : Nat × am_L × List Value × am_H} (h : am_store ok i pc ls st H = some r) : ∃ v st0, st = v :: st0 ∧ ok v = true ∧ i + v.category ≤ ls.length ∧ r = (pc, am_set v i ls, st0, H) := by
  unfold am_store at h
  split at h
  · rename_i v st0
    split at h
    · rename_i q; cases h; exact ⟨v, st0, rfl, q.1, q.2, rfl⟩
    · cases h
  · cases h
theorem am_iinc_inv {i pc : Nat} {k : Int} {ls : am_L} {st : List Value} {H : am_H} {r : Nat × am_L × List Value × am_H} (h : am_iinc i k pc ls st H = some r) : ∃ x, ls[i]? = some (some (.int x)) ∧ r = (pc, am_set (.int (x + Int32.ofInt k)) i ls, st, H) := by
  unfold am_iinc at h
  split at h
  · rename_i x hx; cases h; exact ⟨x, hx, rfl⟩
  · cases h
theorem am_i2_inv {f : Int32 → Int32 → Option Int32} {pc : Nat} {ls : am_L} {st : List Value} {H : am_H} {r : Nat × am_L × List Value × am_H} (h : am_i2 f pc ls st H = some r) : ∃ x y z st0, st = .int y :: .int x :: st0 ∧ f x y = some z ∧ r = (pc, ls, .int z :: st0, H) := by
  unfold am_i2 at h
  split at h
  · rename_i y x st0
    split at h
    · rename_i z hz; cases h; exact ⟨x, y, z, st0, rfl, hz, rfl⟩
    · cases h
  · cases h
theorem am_l2_inv {f : Int64 → Int64 → Option Value} {pc : Nat} {ls : am_L} {st : List Value} {H : am_H} {r : Nat × am_L × List Value × am_H} (h : am_l2 f pc ls st H = some r) : ∃ x y z st0, st = .long y :: .long x :: st0 ∧ f x y = some z ∧ r = (pc, ls, z :: st0, H) := by
  unfold am_l2 at h
  split at h
  · rename_i y x st0
    split at h
    · rename_i z hz; cases h; exact ⟨x, y, z, st0, rfl, hz, rfl⟩
    · cases h
  · cases h
theorem am_u1_inv {f : Value → Option Value} {pc : Nat} {ls : am_L} {st : List Value} {H : am_H} {r : Nat × am_L × List Value × am_H} (h : am_u1 f pc ls st H = some r) : ∃ v z st0, st = v :: st0 ∧ f v = some z ∧ r = (pc, ls, z :: st0, H) := by
  unfold am_u1 at h
  split at h
  · rename_i v st0
    split at h
    · rename_i z hz; cases h; exact ⟨v, z, st0, rfl, hz, rfl⟩
    · cases h
  · cases h
theorem am_pushO_inv {v : Option Value} {pc : Nat} {ls : am_L} {st : List Value} {H : am_H} {r : Nat × am_L × List Value × am_H} (h : am_pushO pc ls st H v = some r) : ∃ z, v = some z ∧ r = (pc, ls, z :: st, H) := by
  unfold am_pushO at h
  split at h
  · rename_i z; cases h; exact ⟨z, rfl, rfl⟩
  · cases h
theorem am_f2_inv {f : UInt32 → UInt32 → Option Value} {pc : Nat} {ls : am_L} {st : List Value} {H : am_H} {r : Nat × am_L × List Value × am_H} (h : am_f2 f pc ls st H = some r) : ∃ x y z st0, st = .float y :: .float x :: st0 ∧ f x y = some z ∧ r = (pc, ls, z :: st0, H) := by
  unfold am_f2 at h
  split at h
  · rename_i y x st0; obtain ⟨z, hz, hr⟩ := am_pushO_inv h; exact ⟨x, y, z, st0, rfl, hz, hr⟩
  · cases h
theorem am_d2_inv {f : UInt64 → UInt64 → Option Value} {pc : Nat} {ls : am_L} {st : List Value} {H : am_H} {r : Nat × am_L × List Value × am_H} (h : am_d2 f pc ls st H = some r) : ∃ x y z st0, st = .double y :: .double x :: st0 ∧ f x y = some z ∧ r = (pc, ls, z :: st0, H) := by
  unfold am_d2 at h
  split at h
  · rename_i y x st0; obtain ⟨z, hz, hr⟩ := am_pushO_inv h; exact ⟨x, y, z, st0, rfl, hz, hr⟩
  · cases h
theorem am_tgt_inv {pc : Nat} {off : Int} {ls : am_L} {st : List Value} {H : am_H} {r : Nat × am_L × List Value × am_H} (h : am_tgt pc off ls st H = some r) : 0 ≤ (pc : Int) + off ∧ r = (((pc : Int) + off).toNat, ls, st, H) := by
  unfold am_tgt at h
  split at h
  · cases h; exact ⟨by assumption, rfl⟩
  · cases h
theorem am_if1_inv {k : ClassFile.Cond} {off : Int} {pc : Nat} {ls : am_L} {st : List Value} {H : am_H} {r : Nat × am_L × List Value × am_H} (h : am_if1 k off pc ls st H = some r) : ∃ x st0, st = .int x :: st0 ∧ 0 ≤ (pc : Int) + off ∧ r = (if am_c1 k x = true then ((pc : Int) + off).toNat else pc + 3, ls, st0, H) := by
  unfold am_if1 at h
  split at h
  · rename_i x st0
    split at h
    · cases h; exact ⟨x, st0, rfl, by assumption, rfl⟩
    · cases h
  · cases h
theorem am_if2_inv {k : ClassFile.Cond} {off : Int} {pc : Nat} {ls : am_L} {st : List Value} {H : am_H} {r : Nat × am_L × List Value × am_H} (h : am_if2 k off pc ls st H = some r) : ∃ x y st0, st = .int y :: .int x :: st0 ∧ 0 ≤ (pc : Int) + off ∧ r = (if am_c2 k x y = true then ((pc : Int) + off).toNat else pc + 3, ls, st0, H) := by
  unfold am_if2 at h
  split at h
  · rename_i y x st0
    split at h
    · cases h; exact ⟨x, y, st0, rfl, by assumption, rfl⟩
    · cases h
  · cases h
theorem am_w_iconst (C : am_Cx p R s m args meth c g mi sz0) {pc : Nat} {ls : am_L} {st : List Value} {H : am_H} {r : Nat × am_L × List Value × am_H} {v : Int} (hd : decode mi.2.1 pc = .ok (.iconst v, 1)) (h : am_step g.2.2.2 mi (.iconst v) pc ls st H = some r) (k : am_K p l e R s m args below meth c Q g mi sz0 sl0 r.1 r.2.1 r.2.2.1 r.2.2.2) : am_K p l e R s m args below meth c Q g mi sz0 sl0 pc ls st H := by
  intro lsC Hc locs hl hL hI hS z1 z2
  obtain ⟨hx, hb, hml, hown, hts, hini, hR, hKn, hB⟩ := C
  cases h
  exact lv_iconst hx hb hd rfl (k _ _ _ hl hL hI hS z1 z2)
theorem am_w_bipush (C : am_Cx p R s m args meth c g mi sz0) {pc : Nat} {ls : am_L} {st : List Value} {H : am_H} {r : Nat × am_L × List Value × am_H} {v : Int} (hd : decode mi.2.1 pc = .ok (.bipush v, 2)) (h : am_step g.2.2.2 mi (.bipush v) pc ls st H = some r) (k : am_K p l e R s m args below meth c Q g mi sz0 sl0 r.1 r.2.1 r.2.2.1 r.2.2.2) : am_K p l e R s m args below meth c Q g mi sz0 sl0 pc ls st H := by
  intro lsC Hc locs hl hL hI hS z1 z2
  obtain ⟨hx, hb, hml, hown, hts, hini, hR, hKn, hB⟩ := C
  cases h
  exact lv_bipush hx hb hd rfl (k _ _ _ hl hL hI hS z1 z2)
theorem am_w_sipush (C : am_Cx p R s m args meth c g mi sz0) {pc : Nat} {ls : am_L} {st : List Value} {H : am_H} {r : Nat × am_L × List Value × am_H} {v : Int} (hd : decode mi.2.1 pc = .ok (.sipush v, 3)) (h : am_step g.2.2.2 mi (.sipush v) pc ls st H = some r) (k : am_K p l e R s m args below meth c Q g mi sz0 sl0 r.1 r.2.1 r.2.2.1 r.2.2.2) : am_K p l e R s m args below meth c Q g mi sz0 sl0 pc ls st H := by
  intro lsC Hc locs hl hL hI hS z1 z2
  obtain ⟨hx, hb, hml, hown, hts, hini, hR, hKn, hB⟩ := C
  cases h
  exact lv_sipush hx hb hd rfl (k _ _ _ hl hL hI hS z1 z2)
theorem am_w_null (C : am_Cx p R s m args meth c g mi sz0) {pc : Nat} {ls : am_L} {st : List Value} {H : am_H} {r : Nat × am_L × List Value × am_H}  (hd : decode mi.2.1 pc = .ok (.aconst_null, 1)) (h : am_step g.2.2.2 mi (.aconst_null) pc ls st H = some r) (k : am_K p l e R s m args below meth c Q g mi sz0 sl0 r.1 r.2.1 r.2.2.1 r.2.2.2) : am_K p l e R s m args below meth c Q g mi sz0 sl0 pc ls st H := by
  intro lsC Hc locs hl hL hI hS z1 z2
  obtain ⟨hx, hb, hml, hown, hts, hini, hR, hKn, hB⟩ := C
  cases h
  exact lv_null hx hb hd (k _ _ _ hl hL hI hS z1 z2)
theorem am_w_ldc (C : am_Cx p R s m args meth c g mi sz0) {pc : Nat} {ls : am_L} {st : List Value} {H : am_H} {r : Nat × am_L × List Value × am_H} {cp : Nat} (hd : decode mi.2.1 pc = .ok (.ldc cp, 2)) (h : am_step g.2.2.2 mi (.ldc cp) pc ls st H = some r) (k : am_K p l e R s m args below meth c Q g mi sz0 sl0 r.1 r.2.1 r.2.2.1 r.2.2.2) : am_K p l e R s m args below meth c Q g mi sz0 sl0 pc ls st H := by
  intro lsC Hc locs hl hL hI hS z1 z2
  obtain ⟨hx, hb, hml, hown, hts, hini, hR, hKn, hB⟩ := C
  obtain ⟨z, hz, rfl⟩ := am_pushO_inv h
  cases hq : (am_conL mi.1).lookup cp with
  | none => rw [hq] at hz; cases hz
  | some v =>
    rw [hq] at hz; cases hz
    exact lv_ldc hx hb hown (hts _ (am_conP _ _ (am_lk _ _ _ hq))) hd (k _ _ _ hl hL hI hS z1 z2)
theorem am_w_ldc2 (C : am_Cx p R s m args meth c g mi sz0) {pc : Nat} {ls : am_L} {st : List Value} {H : am_H} {r : Nat × am_L × List Value × am_H} {cp : Nat} (hd : decode mi.2.1 pc = .ok (.ldc2_w cp, 3)) (h : am_step g.2.2.2 mi (.ldc2_w cp) pc ls st H = some r) (k : am_K p l e R s m args below meth c Q g mi sz0 sl0 r.1 r.2.1 r.2.2.1 r.2.2.2) : am_K p l e R s m args below meth c Q g mi sz0 sl0 pc ls st H := by
  intro lsC Hc locs hl hL hI hS z1 z2
  obtain ⟨hx, hb, hml, hown, hts, hini, hR, hKn, hB⟩ := C
  obtain ⟨z, hz, rfl⟩ := am_pushO_inv h
  cases hq : (am_lngL mi.1).lookup cp with
  | none => rw [hq] at hz; cases hz
  | some v =>
    rw [hq] at hz; cases hz
    exact lv_ldc2 hx hb hown (hts _ (am_lngP _ _ (am_lk _ _ _ hq))) hd (k _ _ _ hl hL hI hS z1 z2)
theorem am_w_fconst (C : am_Cx p R s m args meth c g mi sz0) {pc : Nat} {ls : am_L} {st : List Value} {H : am_H} {r : Nat × am_L × List Value × am_H} {f : Fin 3} (hd : decode mi.2.1 pc = .ok (.fconst f, 1)) (h : am_step g.2.2.2 mi (.fconst f) pc ls st H = some r) (k : am_K p l e R s m args below meth c Q g mi sz0 sl0 r.1 r.2.1 r.2.2.1 r.2.2.2) : am_K p l e R s m args below meth c Q g mi sz0 sl0 pc ls st H := by
  intro lsC Hc locs hl hL hI hS z1 z2
  obtain ⟨hx, hb, hml, hown, hts, hini, hR, hKn, hB⟩ := C
  have h : (if f = 0 then am_push (pc + 1) ls st H (.float FP.fconst0) else none) = some r := h
  split at h
  · rename_i q
    subst q
    cases h
    exact lv_fconst0 hx hb hd (k _ _ _ hl hL hI hS z1 z2)
  · cases h
theorem am_w_iload_n (C : am_Cx p R s m args meth c g mi sz0) {pc : Nat} {ls : am_L} {st : List Value} {H : am_H} {r : Nat × am_L × List Value × am_H} {i : Fin 4} (hd : decode mi.2.1 pc = .ok (.iload_n i, 1)) (h : am_step g.2.2.2 mi (.iload_n i) pc ls st H = some r) (k : am_K p l e R s m args below meth c Q g mi sz0 sl0 r.1 r.2.1 r.2.2.1 r.2.2.2) : am_K p l e R s m args below meth c Q g mi sz0 sl0 pc ls st H := by
  intro lsC Hc locs hl hL hI hS z1 z2
  obtain ⟨hx, hb, hml, hown, hts, hini, hR, hKn, hB⟩ := C
  obtain ⟨v, hv, ho, rfl⟩ := am_load_inv h
  obtain ⟨x, rfl⟩ := am_isI_v ho
  exact lv_iload_n hx hb hd rfl (hl.at hv) (k _ _ _ hl hL hI hS z1 z2)
theorem am_w_lload_n (C : am_Cx p R s m args meth c g mi sz0) {pc : Nat} {ls : am_L} {st : List Value} {H : am_H} {r : Nat × am_L × List Value × am_H} {i : Fin 4} (hd : decode mi.2.1 pc = .ok (.lload_n i, 1)) (h : am_step g.2.2.2 mi (.lload_n i) pc ls st H = some r) (k : am_K p l e R s m args below meth c Q g mi sz0 sl0 r.1 r.2.1 r.2.2.1 r.2.2.2) : am_K p l e R s m args below meth c Q g mi sz0 sl0 pc ls st H := by
  intro lsC Hc locs hl hL hI hS z1 z2
  obtain ⟨hx, hb, hml, hown, hts, hini, hR, hKn, hB⟩ := C
  obtain ⟨v, hv, ho, rfl⟩ := am_load_inv h
  obtain ⟨x, rfl⟩ := am_isL_v ho
  exact lv_lload_n hx hb hd rfl (hl.at hv) (k _ _ _ hl hL hI hS z1 z2)
theorem am_w_iload (C : am_Cx p R s m args meth c g mi sz0) {pc : Nat} {ls : am_L} {st : List Value} {H : am_H} {r : Nat × am_L × List Value × am_H} {i : Nat} (hd : decode mi.2.1 pc = .ok (.iload i, 2)) (h : am_step g.2.2.2 mi (.iload i) pc ls st H = some r) (k : am_K p l e R s m args below meth c Q g mi sz0 sl0 r.1 r.2.1 r.2.2.1 r.2.2.2) : am_K p l e R s m args below meth c Q g mi sz0 sl0 pc ls st H := by
  intro lsC Hc locs hl hL hI hS z1 z2
  obtain ⟨hx, hb, hml, hown, hts, hini, hR, hKn, hB⟩ := C
  obtain ⟨v, hv, ho, rfl⟩ := am_load_inv h
  obtain ⟨x, rfl⟩ := am_isI_v ho
  exact lv_iload hx hb hd (hl.at hv) (k _ _ _ hl hL hI hS z1 z2)
theorem am_w_lload (C : am_Cx p R s m args meth c g mi sz0) {pc : Nat} {ls : am_L} {st : List Value} {H : am_H} {r : Nat × am_L × List Value × am_H} {i : Nat} (hd : decode mi.2.1 pc = .ok (.lload i, 2)) (h : am_step g.2.2.2 mi (.lload i) pc ls st H = some r) (k : am_K p l e R s m args below meth c Q g mi sz0 sl0 r.1 r.2.1 r.2.2.1 r.2.2.2) : am_K p l e R s m args below meth c Q g mi sz0 sl0 pc ls st H := by
  intro lsC Hc locs hl hL hI hS z1 z2
  obtain ⟨hx, hb, hml, hown, hts, hini, hR, hKn, hB⟩ := C
  obtain ⟨v, hv, ho, rfl⟩ := am_load_inv h
  obtain ⟨x, rfl⟩ := am_isL_v ho
  exact lv_lload hx hb hd (hl.at hv) (k _ _ _ hl hL hI hS z1 z2)
theorem am_w_dload (C : am_Cx p R s m args meth c g mi sz0) {pc : Nat} {ls : am_L} {st : List Value} {H : am_H} {r : Nat × am_L × List Value × am_H} {i : Nat} (hd : decode mi.2.1 pc = .ok (.dload i, 2)) (h : am_step g.2.2.2 mi (.dload i) pc ls st H = some r) (k : am_K p l e R s m args below meth c Q g mi sz0 sl0 r.1 r.2.1 r.2.2.1 r.2.2.2) : am_K p l e R s m args below meth c Q g mi sz0 sl0 pc ls st H := by
  intro lsC Hc locs hl hL hI hS z1 z2
  obtain ⟨hx, hb, hml, hown, hts, hini, hR, hKn, hB⟩ := C
  obtain ⟨v, hv, ho, rfl⟩ := am_load_inv h
  obtain ⟨x, rfl⟩ := am_isD_v ho
  exact lv_dload hx hb hd (hl.at hv) (k _ _ _ hl hL hI hS z1 z2)
theorem am_w_aload_n (C : am_Cx p R s m args meth c g mi sz0) {pc : Nat} {ls : am_L} {st : List Value} {H : am_H} {r : Nat × am_L × List Value × am_H} {i : Fin 4} (hd : decode mi.2.1 pc = .ok (.aload_n i, 1)) (h : am_step g.2.2.2 mi (.aload_n i) pc ls st H = some r) (k : am_K p l e R s m args below meth c Q g mi sz0 sl0 r.1 r.2.1 r.2.2.1 r.2.2.2) : am_K p l e R s m args below meth c Q g mi sz0 sl0 pc ls st H := by
  intro lsC Hc locs hl hL hI hS z1 z2
  obtain ⟨hx, hb, hml, hown, hts, hini, hR, hKn, hB⟩ := C
  obtain ⟨v, hv, ho, rfl⟩ := am_load_inv h
  rcases am_isA_v ho with ⟨x, rfl⟩ | rfl
  · exact lv_aload_n hx hb hd rfl (hl.at hv) (k _ _ _ hl hL hI hS z1 z2)
  · exact lv_aload_nN hx hb hd rfl (hl.at hv) (k _ _ _ hl hL hI hS z1 z2)
theorem am_w_aload (C : am_Cx p R s m args meth c g mi sz0) {pc : Nat} {ls : am_L} {st : List Value} {H : am_H} {r : Nat × am_L × List Value × am_H} {i : Nat} (hd : decode mi.2.1 pc = .ok (.aload i, 2)) (h : am_step g.2.2.2 mi (.aload i) pc ls st H = some r) (k : am_K p l e R s m args below meth c Q g mi sz0 sl0 r.1 r.2.1 r.2.2.1 r.2.2.2) : am_K p l e R s m args below meth c Q g mi sz0 sl0 pc ls st H := by
  intro lsC Hc locs hl hL hI hS z1 z2
  obtain ⟨hx, hb, hml, hown, hts, hini, hR, hKn, hB⟩ := C
  obtain ⟨v, hv, ho, rfl⟩ := am_load_inv h
  rcases am_isA_v ho with ⟨x, rfl⟩ | rfl
  · exact lv_aload hx hb hd (hl.at hv) (k _ _ _ hl hL hI hS z1 z2)
  · exact lv_aloadN hx hb hd (hl.at hv) (k _ _ _ hl hL hI hS z1 z2)
theorem am_w_istore_n (C : am_Cx p R s m args meth c g mi sz0) {pc : Nat} {ls : am_L} {st : List Value} {H : am_H} {r : Nat × am_L × List Value × am_H} {i : Fin 4} (hd : decode mi.2.1 pc = .ok (.istore_n i, 1)) (h : am_step g.2.2.2 mi (.istore_n i) pc ls st H = some r) (k : am_K p l e R s m args below meth c Q g mi sz0 sl0 r.1 r.2.1 r.2.2.1 r.2.2.2) : am_K p l e R s m args below meth c Q g mi sz0 sl0 pc ls st H := by
  intro lsC Hc locs hl hL hI hS z1 z2
  obtain ⟨hx, hb, hml, hown, hts, hini, hR, hKn, hB⟩ := C
  obtain ⟨v, st0, rfl, ho, hi, rfl⟩ := am_store_inv h
  obtain ⟨x, rfl⟩ := am_isI_v ho
  exact lv_istore_n hx hb hd rfl hl hi rfl (fun ls2 h2 => k _ _ _ (am_Has.set1 h2) (by show (am_set _ _ _).length = _; rw [am_set_len]; exact hL) hI hS z1 z2)
theorem am_w_istore (C : am_Cx p R s m args meth c g mi sz0) {pc : Nat} {ls : am_L} {st : List Value} {H : am_H} {r : Nat × am_L × List Value × am_H} {i : Nat} (hd : decode mi.2.1 pc = .ok (.istore i, 2)) (h : am_step g.2.2.2 mi (.istore i) pc ls st H = some r) (k : am_K p l e R s m args below meth c Q g mi sz0 sl0 r.1 r.2.1 r.2.2.1 r.2.2.2) : am_K p l e R s m args below meth c Q g mi sz0 sl0 pc ls st H := by
  intro lsC Hc locs hl hL hI hS z1 z2
  obtain ⟨hx, hb, hml, hown, hts, hini, hR, hKn, hB⟩ := C
  obtain ⟨v, st0, rfl, ho, hi, rfl⟩ := am_store_inv h
  obtain ⟨x, rfl⟩ := am_isI_v ho
  exact lv_istore hx hb hd hl hi rfl (fun ls2 h2 => k _ _ _ (am_Has.set1 h2) (by show (am_set _ _ _).length = _; rw [am_set_len]; exact hL) hI hS z1 z2)
theorem am_w_lstore_n (C : am_Cx p R s m args meth c g mi sz0) {pc : Nat} {ls : am_L} {st : List Value} {H : am_H} {r : Nat × am_L × List Value × am_H} {i : Fin 4} (hd : decode mi.2.1 pc = .ok (.lstore_n i, 1)) (h : am_step g.2.2.2 mi (.lstore_n i) pc ls st H = some r) (k : am_K p l e R s m args below meth c Q g mi sz0 sl0 r.1 r.2.1 r.2.2.1 r.2.2.2) : am_K p l e R s m args below meth c Q g mi sz0 sl0 pc ls st H := by
  intro lsC Hc locs hl hL hI hS z1 z2
  obtain ⟨hx, hb, hml, hown, hts, hini, hR, hKn, hB⟩ := C
  obtain ⟨v, st0, rfl, ho, hi, rfl⟩ := am_store_inv h
  obtain ⟨x, rfl⟩ := am_isL_v ho
  exact lv_lstore_n hx hb hd rfl hl hi rfl (fun ls2 h2 => k _ _ _ (am_Has.set2 rfl h2) (by show (am_set _ _ _).length = _; rw [am_set_len]; exact hL) hI hS z1 z2)
theorem am_w_lstore (C : am_Cx p R s m args meth c g mi sz0) {pc : Nat} {ls : am_L} {st : List Value} {H : am_H} {r : Nat × am_L × List Value × am_H} {i : Nat} (hd : decode mi.2.1 pc = .ok (.lstore i, 2)) (h : am_step g.2.2.2 mi (.lstore i) pc ls st H = some r) (k : am_K p l e R s m args below meth c Q g mi sz0 sl0 r.1 r.2.1 r.2.2.1 r.2.2.2) : am_K p l e R s m args below meth c Q g mi sz0 sl0 pc ls st H := by
  intro lsC Hc locs hl hL hI hS z1 z2
  obtain ⟨hx, hb, hml, hown, hts, hini, hR, hKn, hB⟩ := C
  obtain ⟨v, st0, rfl, ho, hi, rfl⟩ := am_store_inv h
  obtain ⟨x, rfl⟩ := am_isL_v ho
  exact lv_lstore hx hb hd hl hi rfl (fun ls2 h2 => k _ _ _ (am_Has.set2 rfl h2) (by show (am_set _ _ _).length = _; rw [am_set_len]; exact hL) hI hS z1 z2)
theorem am_w_dstore (C : am_Cx p R s m args meth c g mi sz0) {pc : Nat} {ls : am_L} {st : List Value} {H : am_H} {r : Nat × am_L × List Value × am_H} {i : Nat} (hd : decode mi.2.1 pc = .ok (.dstore i, 2)) (h : am_step g.2.2.2 mi (.dstore i) pc ls st H = some r) (k : am_K p l e R s m args below meth c Q g mi sz0 sl0 r.1 r.2.1 r.2.2.1 r.2.2.2) : am_K p l e R s m args below meth c Q g mi sz0 sl0 pc ls st H := by
  intro lsC Hc locs hl hL hI hS z1 z2
  obtain ⟨hx, hb, hml, hown, hts, hini, hR, hKn, hB⟩ := C
  obtain ⟨v, st0, rfl, ho, hi, rfl⟩ := am_store_inv h
  obtain ⟨x, rfl⟩ := am_isD_v ho
  exact lv_dstore hx hb hd hl hi rfl (fun ls2 h2 => k _ _ _ (am_Has.set2 rfl h2) (by show (am_set _ _ _).length = _; rw [am_set_len]; exact hL) hI hS z1 z2)
theorem am_w_astore_n (C : am_Cx p R s m args meth c g mi sz0) {pc : Nat} {ls : am_L} {st : List Value} {H : am_H} {r : Nat × am_L × List Value × am_H} {i : Fin 4} (hd : decode mi.2.1 pc = .ok (.astore_n i, 1)) (h : am_step g.2.2.2 mi (.astore_n i) pc ls st H = some r) (k : am_K p l e R s m args below meth c Q g mi sz0 sl0 r.1 r.2.1 r.2.2.1 r.2.2.2) : am_K p l e R s m args below meth c Q g mi sz0 sl0 pc ls st H := by
  intro lsC Hc locs hl hL hI hS z1 z2
  obtain ⟨hx, hb, hml, hown, hts, hini, hR, hKn, hB⟩ := C
  obtain ⟨v, st0, rfl, ho, hi, rfl⟩ := am_store_inv h
  rcases am_isA_v ho with ⟨x, rfl⟩ | rfl
  · exact lv_astore_n hx hb hd rfl hl hi rfl (fun ls2 h2 => k _ _ _ (am_Has.set1 h2) (by show (am_set _ _ _).length = _; rw [am_set_len]; exact hL) hI hS z1 z2)
  · exact lv_astore_nN hx hb hd rfl hl hi rfl (fun ls2 h2 => k _ _ _ (am_Has.set1 h2) (by show (am_set _ _ _).length = _; rw [am_set_len]; exact hL) hI hS z1 z2)
theorem am_w_astore (C : am_Cx p R s m args meth c g mi sz0) {pc : Nat} {ls : am_L} {st : List Value} {H : am_H} {r : Nat × am_L × List Value × am_H} {i : Nat} (hd : decode mi.2.1 pc = .ok (.astore i, 2)) (h : am_step g.2.2.2 mi (.astore i) pc ls st H = some r) (k : am_K p l e R s m args below meth c Q g mi sz0 sl0 r.1 r.2.1 r.2.2.1 r.2.2.2) : am_K p l e R s m args below meth c Q g mi sz0 sl0 pc ls st H := by
  intro lsC Hc locs hl hL hI hS z1 z2
  obtain ⟨hx, hb, hml, hown, hts, hini, hR, hKn, hB⟩ := C
  obtain ⟨v, st0, rfl, ho, hi, rfl⟩ := am_store_inv h
  rcases am_isA_v ho with ⟨x, rfl⟩ | rfl
  · exact lv_astore hx hb hd hl hi rfl (fun ls2 h2 => k _ _ _ (am_Has.set1 h2) (by show (am_set _ _ _).length = _; rw [am_set_len]; exact hL) hI hS z1 z2)
  · exact lv_astoreN hx hb hd hl hi rfl (fun ls2 h2 => k _ _ _ (am_Has.set1 h2) (by show (am_set _ _ _).length = _; rw [am_set_len]; exact hL) hI hS z1 z2)
theorem am_w_iinc (C : am_Cx p R s m args meth c g mi sz0) {pc : Nat} {ls : am_L} {st : List Value} {H : am_H} {r : Nat × am_L × List Value × am_H} {i : Nat} {v : Int} (hd : decode mi.2.1 pc = .ok (.iinc i v, 3)) (h : am_step g.2.2.2 mi (.iinc i v) pc ls st H = some r) (k : am_K p l e R s m args below meth c Q g mi sz0 sl0 r.1 r.2.1 r.2.2.1 r.2.2.2) : am_K p l e R s m args below meth c Q g mi sz0 sl0 pc ls st H := by
  intro lsC Hc locs hl hL hI hS z1 z2
  obtain ⟨hx, hb, hml, hown, hts, hini, hR, hKn, hB⟩ := C
  obtain ⟨x, hv, rfl⟩ := am_iinc_inv h
  obtain ⟨q, hq⟩ := List.getElem?_of_mem (am_al_mem (q := (i, .int x)) |>.mpr hv)
  exact lv_iinc hx hb hd hl hq rfl (List.getElem?_eq_some_iff.mp hv).1 rfl (fun ls2 h2 => k _ _ _ (am_Has.set1 h2) (by show (am_set _ _ _).length = _; rw [am_set_len]; exact hL) hI hS z1 z2)
theorem am_w_iadd (C : am_Cx p R s m args meth c g mi sz0) {pc : Nat} {ls : am_L} {st : List Value} {H : am_H} {r : Nat × am_L × List Value × am_H}  (hd : decode mi.2.1 pc = .ok (.iadd, 1)) (h : am_step g.2.2.2 mi (.iadd) pc ls st H = some r) (k : am_K p l e R s m args below meth c Q g mi sz0 sl0 r.1 r.2.1 r.2.2.1 r.2.2.2) : am_K p l e R s m args below meth c Q g mi sz0 sl0 pc ls st H := by
  intro lsC Hc locs hl hL hI hS z1 z2
  obtain ⟨hx, hb, hml, hown, hts, hini, hR, hKn, hB⟩ := C
  simp only [am_step] at h
  obtain ⟨x, y, z, st0, rfl, hz, rfl⟩ := am_i2_inv h
  cases hz
  exact lv_iadd hx hb hd (k _ _ _ hl hL hI hS z1 z2)
theorem am_w_isub (C : am_Cx p R s m args meth c g mi sz0) {pc : Nat} {ls : am_L} {st : List Value} {H : am_H} {r : Nat × am_L × List Value × am_H}  (hd : decode mi.2.1 pc = .ok (.isub, 1)) (h : am_step g.2.2.2 mi (.isub) pc ls st H = some r) (k : am_K p l e R s m args below meth c Q g mi sz0 sl0 r.1 r.2.1 r.2.2.1 r.2.2.2) : am_K p l e R s m args below meth c Q g mi sz0 sl0 pc ls st H := by
  intro lsC Hc locs hl hL hI hS z1 z2
  obtain ⟨hx, hb, hml, hown, hts, hini, hR, hKn, hB⟩ := C
  simp only [am_step] at h
  obtain ⟨x, y, z, st0, rfl, hz, rfl⟩ := am_i2_inv h
  cases hz
  exact lv_isub hx hb hd (k _ _ _ hl hL hI hS z1 z2)
theorem am_w_imul (C : am_Cx p R s m args meth c g mi sz0) {pc : Nat} {ls : am_L} {st : List Value} {H : am_H} {r : Nat × am_L × List Value × am_H}  (hd : decode mi.2.1 pc = .ok (.imul, 1)) (h : am_step g.2.2.2 mi (.imul) pc ls st H = some r) (k : am_K p l e R s m args below meth c Q g mi sz0 sl0 r.1 r.2.1 r.2.2.1 r.2.2.2) : am_K p l e R s m args below meth c Q g mi sz0 sl0 pc ls st H := by
  intro lsC Hc locs hl hL hI hS z1 z2
  obtain ⟨hx, hb, hml, hown, hts, hini, hR, hKn, hB⟩ := C
  simp only [am_step] at h
  obtain ⟨x, y, z, st0, rfl, hz, rfl⟩ := am_i2_inv h
  cases hz
  exact lv_imul hx hb hd (k _ _ _ hl hL hI hS z1 z2)
theorem am_w_iand (C : am_Cx p R s m args meth c g mi sz0) {pc : Nat} {ls : am_L} {st : List Value} {H : am_H} {r : Nat × am_L × List Value × am_H}  (hd : decode mi.2.1 pc = .ok (.iand, 1)) (h : am_step g.2.2.2 mi (.iand) pc ls st H = some r) (k : am_K p l e R s m args below meth c Q g mi sz0 sl0 r.1 r.2.1 r.2.2.1 r.2.2.2) : am_K p l e R s m args below meth c Q g mi sz0 sl0 pc ls st H := by
  intro lsC Hc locs hl hL hI hS z1 z2
  obtain ⟨hx, hb, hml, hown, hts, hini, hR, hKn, hB⟩ := C
  simp only [am_step] at h
  obtain ⟨x, y, z, st0, rfl, hz, rfl⟩ := am_i2_inv h
  cases hz
  exact lv_iand hx hb hd (k _ _ _ hl hL hI hS z1 z2)
theorem am_w_ior (C : am_Cx p R s m args meth c g mi sz0) {pc : Nat} {ls : am_L} {st : List Value} {H : am_H} {r : Nat × am_L × List Value × am_H}  (hd : decode mi.2.1 pc = .ok (.ior, 1)) (h : am_step g.2.2.2 mi (.ior) pc ls st H = some r) (k : am_K p l e R s m args below meth c Q g mi sz0 sl0 r.1 r.2.1 r.2.2.1 r.2.2.2) : am_K p l e R s m args below meth c Q g mi sz0 sl0 pc ls st H := by
  intro lsC Hc locs hl hL hI hS z1 z2
  obtain ⟨hx, hb, hml, hown, hts, hini, hR, hKn, hB⟩ := C
  simp only [am_step] at h
  obtain ⟨x, y, z, st0, rfl, hz, rfl⟩ := am_i2_inv h
  cases hz
  exact lv_ior hx hb hd (k _ _ _ hl hL hI hS z1 z2)
theorem am_w_ixor (C : am_Cx p R s m args meth c g mi sz0) {pc : Nat} {ls : am_L} {st : List Value} {H : am_H} {r : Nat × am_L × List Value × am_H}  (hd : decode mi.2.1 pc = .ok (.ixor, 1)) (h : am_step g.2.2.2 mi (.ixor) pc ls st H = some r) (k : am_K p l e R s m args below meth c Q g mi sz0 sl0 r.1 r.2.1 r.2.2.1 r.2.2.2) : am_K p l e R s m args below meth c Q g mi sz0 sl0 pc ls st H := by
  intro lsC Hc locs hl hL hI hS z1 z2
  obtain ⟨hx, hb, hml, hown, hts, hini, hR, hKn, hB⟩ := C
  simp only [am_step] at h
  obtain ⟨x, y, z, st0, rfl, hz, rfl⟩ := am_i2_inv h
  cases hz
  exact lv_ixor hx hb hd (k _ _ _ hl hL hI hS z1 z2)
theorem am_w_ishl (C : am_Cx p R s m args meth c g mi sz0) {pc : Nat} {ls : am_L} {st : List Value} {H : am_H} {r : Nat × am_L × List Value × am_H}  (hd : decode mi.2.1 pc = .ok (.ishl, 1)) (h : am_step g.2.2.2 mi (.ishl) pc ls st H = some r) (k : am_K p l e R s m args below meth c Q g mi sz0 sl0 r.1 r.2.1 r.2.2.1 r.2.2.2) : am_K p l e R s m args below meth c Q g mi sz0 sl0 pc ls st H := by
  intro lsC Hc locs hl hL hI hS z1 z2
  obtain ⟨hx, hb, hml, hown, hts, hini, hR, hKn, hB⟩ := C
  simp only [am_step] at h
  obtain ⟨x, y, z, st0, rfl, hz, rfl⟩ := am_i2_inv h
  cases hz
  exact lv_ishl hx hb hd (k _ _ _ hl hL hI hS z1 z2)
theorem am_w_ishr (C : am_Cx p R s m args meth c g mi sz0) {pc : Nat} {ls : am_L} {st : List Value} {H : am_H} {r : Nat × am_L × List Value × am_H}  (hd : decode mi.2.1 pc = .ok (.ishr, 1)) (h : am_step g.2.2.2 mi (.ishr) pc ls st H = some r) (k : am_K p l e R s m args below meth c Q g mi sz0 sl0 r.1 r.2.1 r.2.2.1 r.2.2.2) : am_K p l e R s m args below meth c Q g mi sz0 sl0 pc ls st H := by
  intro lsC Hc locs hl hL hI hS z1 z2
  obtain ⟨hx, hb, hml, hown, hts, hini, hR, hKn, hB⟩ := C
  simp only [am_step] at h
  obtain ⟨x, y, z, st0, rfl, hz, rfl⟩ := am_i2_inv h
  cases hz
  exact lv_ishr hx hb hd (k _ _ _ hl hL hI hS z1 z2)
theorem am_w_idiv (C : am_Cx p R s m args meth c g mi sz0) {pc : Nat} {ls : am_L} {st : List Value} {H : am_H} {r : Nat × am_L × List Value × am_H}  (hd : decode mi.2.1 pc = .ok (.idiv, 1)) (h : am_step g.2.2.2 mi (.idiv) pc ls st H = some r) (k : am_K p l e R s m args below meth c Q g mi sz0 sl0 r.1 r.2.1 r.2.2.1 r.2.2.2) : am_K p l e R s m args below meth c Q g mi sz0 sl0 pc ls st H := by
  intro lsC Hc locs hl hL hI hS z1 z2
  obtain ⟨hx, hb, hml, hown, hts, hini, hR, hKn, hB⟩ := C
  simp only [am_step] at h
  obtain ⟨x, y, z, st0, rfl, hz, rfl⟩ := am_i2_inv h
  split at hz
  · cases hz
  · cases hz
    exact lv_idiv hx hb hd (by assumption) (k _ _ _ hl hL hI hS z1 z2)
theorem am_w_irem (C : am_Cx p R s m args meth c g mi sz0) {pc : Nat} {ls : am_L} {st : List Value} {H : am_H} {r : Nat × am_L × List Value × am_H}  (hd : decode mi.2.1 pc = .ok (.irem, 1)) (h : am_step g.2.2.2 mi (.irem) pc ls st H = some r) (k : am_K p l e R s m args below meth c Q g mi sz0 sl0 r.1 r.2.1 r.2.2.1 r.2.2.2) : am_K p l e R s m args below meth c Q g mi sz0 sl0 pc ls st H := by
  intro lsC Hc locs hl hL hI hS z1 z2
  obtain ⟨hx, hb, hml, hown, hts, hini, hR, hKn, hB⟩ := C
  simp only [am_step] at h
  obtain ⟨x, y, z, st0, rfl, hz, rfl⟩ := am_i2_inv h
  split at hz
  · cases hz
  · cases hz
    exact lv_irem hx hb hd (by assumption) (k _ _ _ hl hL hI hS z1 z2)
theorem am_w_ladd (C : am_Cx p R s m args meth c g mi sz0) {pc : Nat} {ls : am_L} {st : List Value} {H : am_H} {r : Nat × am_L × List Value × am_H}  (hd : decode mi.2.1 pc = .ok (.ladd, 1)) (h : am_step g.2.2.2 mi (.ladd) pc ls st H = some r) (k : am_K p l e R s m args below meth c Q g mi sz0 sl0 r.1 r.2.1 r.2.2.1 r.2.2.2) : am_K p l e R s m args below meth c Q g mi sz0 sl0 pc ls st H := by
  intro lsC Hc locs hl hL hI hS z1 z2
  obtain ⟨hx, hb, hml, hown, hts, hini, hR, hKn, hB⟩ := C
  simp only [am_step] at h
  obtain ⟨x, y, z, st0, rfl, hz, rfl⟩ := am_l2_inv h
  cases hz
  exact lv_ladd hx hb hd (k _ _ _ hl hL hI hS z1 z2)
theorem am_w_lmul (C : am_Cx p R s m args meth c g mi sz0) {pc : Nat} {ls : am_L} {st : List Value} {H : am_H} {r : Nat × am_L × List Value × am_H}  (hd : decode mi.2.1 pc = .ok (.lmul, 1)) (h : am_step g.2.2.2 mi (.lmul) pc ls st H = some r) (k : am_K p l e R s m args below meth c Q g mi sz0 sl0 r.1 r.2.1 r.2.2.1 r.2.2.2) : am_K p l e R s m args below meth c Q g mi sz0 sl0 pc ls st H := by
  intro lsC Hc locs hl hL hI hS z1 z2
  obtain ⟨hx, hb, hml, hown, hts, hini, hR, hKn, hB⟩ := C
  simp only [am_step] at h
  obtain ⟨x, y, z, st0, rfl, hz, rfl⟩ := am_l2_inv h
  cases hz
  exact lv_lmul hx hb hd (k _ _ _ hl hL hI hS z1 z2)
theorem am_w_lcmp (C : am_Cx p R s m args meth c g mi sz0) {pc : Nat} {ls : am_L} {st : List Value} {H : am_H} {r : Nat × am_L × List Value × am_H}  (hd : decode mi.2.1 pc = .ok (.lcmp, 1)) (h : am_step g.2.2.2 mi (.lcmp) pc ls st H = some r) (k : am_K p l e R s m args below meth c Q g mi sz0 sl0 r.1 r.2.1 r.2.2.1 r.2.2.2) : am_K p l e R s m args below meth c Q g mi sz0 sl0 pc ls st H := by
  intro lsC Hc locs hl hL hI hS z1 z2
  obtain ⟨hx, hb, hml, hown, hts, hini, hR, hKn, hB⟩ := C
  simp only [am_step] at h
  obtain ⟨x, y, z, st0, rfl, hz, rfl⟩ := am_l2_inv h
  cases hz
  exact W.lcmp hx hb hd (k _ _ _ hl hL hI hS z1 z2)
theorem am_w_ldiv (C : am_Cx p R s m args meth c g mi sz0) {pc : Nat} {ls : am_L} {st : List Value} {H : am_H} {r : Nat × am_L × List Value × am_H}  (hd : decode mi.2.1 pc = .ok (.ldiv, 1)) (h : am_step g.2.2.2 mi (.ldiv) pc ls st H = some r) (k : am_K p l e R s m args below meth c Q g mi sz0 sl0 r.1 r.2.1 r.2.2.1 r.2.2.2) : am_K p l e R s m args below meth c Q g mi sz0 sl0 pc ls st H := by
  intro lsC Hc locs hl hL hI hS z1 z2
  obtain ⟨hx, hb, hml, hown, hts, hini, hR, hKn, hB⟩ := C
  simp only [am_step] at h
  obtain ⟨x, y, z, st0, rfl, hz, rfl⟩ := am_l2_inv h
  split at hz
  · cases hz
  · cases hz
    exact lv_ldiv hx hb hd (by assumption) (k _ _ _ hl hL hI hS z1 z2)
theorem am_w_ineg (C : am_Cx p R s m args meth c g mi sz0) {pc : Nat} {ls : am_L} {st : List Value} {H : am_H} {r : Nat × am_L × List Value × am_H}  (hd : decode mi.2.1 pc = .ok (.ineg, 1)) (h : am_step g.2.2.2 mi (.ineg) pc ls st H = some r) (k : am_K p l e R s m args below meth c Q g mi sz0 sl0 r.1 r.2.1 r.2.2.1 r.2.2.2) : am_K p l e R s m args below meth c Q g mi sz0 sl0 pc ls st H := by
  intro lsC Hc locs hl hL hI hS z1 z2
  obtain ⟨hx, hb, hml, hown, hts, hini, hR, hKn, hB⟩ := C
  simp only [am_step] at h
  obtain ⟨v, z, st0, rfl, hz, rfl⟩ := am_u1_inv h
  cases v with
  | int x => cases hz; exact lv_ineg hx hb hd (k _ _ _ hl hL hI hS z1 z2)
  | _ => cases hz
theorem am_w_i2l (C : am_Cx p R s m args meth c g mi sz0) {pc : Nat} {ls : am_L} {st : List Value} {H : am_H} {r : Nat × am_L × List Value × am_H}  (hd : decode mi.2.1 pc = .ok (.i2l, 1)) (h : am_step g.2.2.2 mi (.i2l) pc ls st H = some r) (k : am_K p l e R s m args below meth c Q g mi sz0 sl0 r.1 r.2.1 r.2.2.1 r.2.2.2) : am_K p l e R s m args below meth c Q g mi sz0 sl0 pc ls st H := by
  intro lsC Hc locs hl hL hI hS z1 z2
  obtain ⟨hx, hb, hml, hown, hts, hini, hR, hKn, hB⟩ := C
  simp only [am_step] at h
  obtain ⟨v, z, st0, rfl, hz, rfl⟩ := am_u1_inv h
  cases v with
  | int x => cases hz; exact lv_i2l hx hb hd rfl (k _ _ _ hl hL hI hS z1 z2)
  | _ => cases hz
theorem am_w_l2i (C : am_Cx p R s m args meth c g mi sz0) {pc : Nat} {ls : am_L} {st : List Value} {H : am_H} {r : Nat × am_L × List Value × am_H}  (hd : decode mi.2.1 pc = .ok (.l2i, 1)) (h : am_step g.2.2.2 mi (.l2i) pc ls st H = some r) (k : am_K p l e R s m args below meth c Q g mi sz0 sl0 r.1 r.2.1 r.2.2.1 r.2.2.2) : am_K p l e R s m args below meth c Q g mi sz0 sl0 pc ls st H := by
  intro lsC Hc locs hl hL hI hS z1 z2
  obtain ⟨hx, hb, hml, hown, hts, hini, hR, hKn, hB⟩ := C
  simp only [am_step] at h
  obtain ⟨v, z, st0, rfl, hz, rfl⟩ := am_u1_inv h
  cases v with
  | long x => cases hz; exact lv_l2i hx hb hd rfl (k _ _ _ hl hL hI hS z1 z2)
  | _ => cases hz
theorem am_w_l2f (C : am_Cx p R s m args meth c g mi sz0) {pc : Nat} {ls : am_L} {st : List Value} {H : am_H} {r : Nat × am_L × List Value × am_H}  (hd : decode mi.2.1 pc = .ok (.l2f, 1)) (h : am_step g.2.2.2 mi (.l2f) pc ls st H = some r) (k : am_K p l e R s m args below meth c Q g mi sz0 sl0 r.1 r.2.1 r.2.2.1 r.2.2.2) : am_K p l e R s m args below meth c Q g mi sz0 sl0 pc ls st H := by
  intro lsC Hc locs hl hL hI hS z1 z2
  obtain ⟨hx, hb, hml, hown, hts, hini, hR, hKn, hB⟩ := C
  simp only [am_step] at h
  obtain ⟨v, z, st0, rfl, hz, rfl⟩ := am_u1_inv h
  cases v with
  | long x => cases hz; exact lv_l2f hx hb hd (k _ _ _ hl hL hI hS z1 z2)
  | _ => cases hz
theorem am_w_i2f (C : am_Cx p R s m args meth c g mi sz0) {pc : Nat} {ls : am_L} {st : List Value} {H : am_H} {r : Nat × am_L × List Value × am_H}  (hd : decode mi.2.1 pc = .ok (.i2f, 1)) (h : am_step g.2.2.2 mi (.i2f) pc ls st H = some r) (k : am_K p l e R s m args below meth c Q g mi sz0 sl0 r.1 r.2.1 r.2.2.1 r.2.2.2) : am_K p l e R s m args below meth c Q g mi sz0 sl0 pc ls st H := by
  intro lsC Hc locs hl hL hI hS z1 z2
  obtain ⟨hx, hb, hml, hown, hts, hini, hR, hKn, hB⟩ := C
  simp only [am_step] at h
  obtain ⟨v, z, st0, rfl, hz, rfl⟩ := am_u1_inv h
  cases v with
  | int x => cases hz; exact lv_i2f hx hb hd (k _ _ _ hl hL hI hS z1 z2)
  | _ => cases hz
theorem am_w_f2d (C : am_Cx p R s m args meth c g mi sz0) {pc : Nat} {ls : am_L} {st : List Value} {H : am_H} {r : Nat × am_L × List Value × am_H}  (hd : decode mi.2.1 pc = .ok (.f2d, 1)) (h : am_step g.2.2.2 mi (.f2d) pc ls st H = some r) (k : am_K p l e R s m args below meth c Q g mi sz0 sl0 r.1 r.2.1 r.2.2.1 r.2.2.2) : am_K p l e R s m args below meth c Q g mi sz0 sl0 pc ls st H := by
  intro lsC Hc locs hl hL hI hS z1 z2
  obtain ⟨hx, hb, hml, hown, hts, hini, hR, hKn, hB⟩ := C
  simp only [am_step] at h
  obtain ⟨v, z, st0, rfl, hz, rfl⟩ := am_u1_inv h
  cases v with
  | float x =>
    have hz : am_n64 (FP.f2d x) = some z := hz
    unfold am_n64 at hz
    split at hz
    · cases hz; exact lv_f2d hx hb hd (by assumption) (k _ _ _ hl hL hI hS z1 z2)
    · cases hz
  | _ => cases hz
theorem am_w_fdiv (C : am_Cx p R s m args meth c g mi sz0) {pc : Nat} {ls : am_L} {st : List Value} {H : am_H} {r : Nat × am_L × List Value × am_H}  (hd : decode mi.2.1 pc = .ok (.fdiv, 1)) (h : am_step g.2.2.2 mi (.fdiv) pc ls st H = some r) (k : am_K p l e R s m args below meth c Q g mi sz0 sl0 r.1 r.2.1 r.2.2.1 r.2.2.2) : am_K p l e R s m args below meth c Q g mi sz0 sl0 pc ls st H := by
  intro lsC Hc locs hl hL hI hS z1 z2
  obtain ⟨hx, hb, hml, hown, hts, hini, hR, hKn, hB⟩ := C
  simp only [am_step] at h
  obtain ⟨x, y, z, st0, rfl, hz, rfl⟩ := am_f2_inv h
  have hz : am_n32 (FP.fdiv x y) = some z := hz
  unfold am_n32 at hz
  split at hz
  · cases hz; exact lv_fdiv hx hb hd (by assumption) (k _ _ _ hl hL hI hS z1 z2)
  · cases hz
theorem am_w_dcmp (C : am_Cx p R s m args meth c g mi sz0) {pc : Nat} {ls : am_L} {st : List Value} {H : am_H} {r : Nat × am_L × List Value × am_H} {op : CmpOp} (hd : decode mi.2.1 pc = .ok (.dcmp op, 1)) (h : am_step g.2.2.2 mi (.dcmp op) pc ls st H = some r) (k : am_K p l e R s m args below meth c Q g mi sz0 sl0 r.1 r.2.1 r.2.2.1 r.2.2.2) : am_K p l e R s m args below meth c Q g mi sz0 sl0 pc ls st H := by
  intro lsC Hc locs hl hL hI hS z1 z2
  obtain ⟨hx, hb, hml, hown, hts, hini, hR, hKn, hB⟩ := C
  simp only [am_step] at h
  obtain ⟨x, y, z, st0, rfl, hz, rfl⟩ := am_d2_inv h
  cases hz
  exact lv_dcmp hx hb hd (k _ _ _ hl hL hI hS z1 z2)
theorem am_w_fcmp (C : am_Cx p R s m args meth c g mi sz0) {pc : Nat} {ls : am_L} {st : List Value} {H : am_H} {r : Nat × am_L × List Value × am_H} {op : CmpOp} (hd : decode mi.2.1 pc = .ok (.fcmp op, 1)) (h : am_step g.2.2.2 mi (.fcmp op) pc ls st H = some r) (k : am_K p l e R s m args below meth c Q g mi sz0 sl0 r.1 r.2.1 r.2.2.1 r.2.2.2) : am_K p l e R s m args below meth c Q g mi sz0 sl0 pc ls st H := by
  intro lsC Hc locs hl hL hI hS z1 z2
  obtain ⟨hx, hb, hml, hown, hts, hini, hR, hKn, hB⟩ := C
  simp only [am_step] at h
  obtain ⟨x, y, z, st0, rfl, hz, rfl⟩ := am_f2_inv h
  cases hz
  exact lv_fcmp hx hb hd (k _ _ _ hl hL hI hS z1 z2)
theorem am_w_dup (C : am_Cx p R s m args meth c g mi sz0) {pc : Nat} {ls : am_L} {st : List Value} {H : am_H} {r : Nat × am_L × List Value × am_H}  (hd : decode mi.2.1 pc = .ok (.dup, 1)) (h : am_step g.2.2.2 mi (.dup) pc ls st H = some r) (k : am_K p l e R s m args below meth c Q g mi sz0 sl0 r.1 r.2.1 r.2.2.1 r.2.2.2) : am_K p l e R s m args below meth c Q g mi sz0 sl0 pc ls st H := by
  intro lsC Hc locs hl hL hI hS z1 z2
  obtain ⟨hx, hb, hml, hown, hts, hini, hR, hKn, hB⟩ := C
  have h : am_dup (pc + 1) ls st H = some r := h
  unfold am_dup at h
  split at h
  · split at h
    · cases h; exact lv_dup hx hb hd (by assumption) (k _ _ _ hl hL hI hS z1 z2)
    · cases h
  · cases h
theorem am_w_dup2 (C : am_Cx p R s m args meth c g mi sz0) {pc : Nat} {ls : am_L} {st : List Value} {H : am_H} {r : Nat × am_L × List Value × am_H}  (hd : decode mi.2.1 pc = .ok (.dup2, 1)) (h : am_step g.2.2.2 mi (.dup2) pc ls st H = some r) (k : am_K p l e R s m args below meth c Q g mi sz0 sl0 r.1 r.2.1 r.2.2.1 r.2.2.2) : am_K p l e R s m args below meth c Q g mi sz0 sl0 pc ls st H := by
  intro lsC Hc locs hl hL hI hS z1 z2
  obtain ⟨hx, hb, hml, hown, hts, hini, hR, hKn, hB⟩ := C
  have h : am_dup2 (pc + 1) ls st H = some r := h
  unfold am_dup2 at h
  split at h
  · split at h
    · rename_i q; cases h; exact lv_dup2_11 hx hb hd q.1 q.2 (k _ _ _ hl hL hI hS z1 z2)
    · cases h
  · cases h
theorem am_w_ifCond (C : am_Cx p R s m args meth c g mi sz0) {pc : Nat} {ls : am_L} {st : List Value} {H : am_H} {r : Nat × am_L × List Value × am_H} {q : ClassFile.Cond} {off : Int} (hd : decode mi.2.1 pc = .ok (.ifCond q off, 3)) (h : am_step g.2.2.2 mi (.ifCond q off) pc ls st H = some r) (k : am_K p l e R s m args below meth c Q g mi sz0 sl0 r.1 r.2.1 r.2.2.1 r.2.2.2) : am_K p l e R s m args below meth c Q g mi sz0 sl0 pc ls st H := by
  intro lsC Hc locs hl hL hI hS z1 z2
  obtain ⟨hx, hb, hml, hown, hts, hini, hR, hKn, hB⟩ := C
  obtain ⟨x, st0, rfl, ho, rfl⟩ := am_if1_inv h
  cases q with
  | eq =>
    by_cases a : am_c1 .eq x = true
    · have k := k lsC Hc locs hl hL hI hS z1 z2
      dsimp only at k; rw [if_pos a] at k
      exact lv_if_eq (tgt := ((pc : Int) + off).toNat) hx hb hd (by omega) (fun _ => k) (fun c1 => absurd (of_decide_eq_true a) c1)
    · have k := k lsC Hc locs hl hL hI hS z1 z2
      dsimp only at k; rw [if_neg a] at k
      exact lv_if_eq (tgt := ((pc : Int) + off).toNat) hx hb hd (by omega) (fun c1 => absurd (decide_eq_true c1) a) (fun _ => k)
  | ne =>
    by_cases a : am_c1 .ne x = true
    · have k := k lsC Hc locs hl hL hI hS z1 z2
      dsimp only at k; rw [if_pos a] at k
      exact lv_if_ne (tgt := ((pc : Int) + off).toNat) hx hb hd (by omega) (fun _ => k) (fun c1 => absurd c1 (of_decide_eq_true a))
    · have k := k lsC Hc locs hl hL hI hS z1 z2
      dsimp only at k; rw [if_neg a] at k
      exact lv_if_ne (tgt := ((pc : Int) + off).toNat) hx hb hd (by omega) (fun c1 => absurd (decide_eq_true c1) a) (fun _ => k)
  | lt =>
    by_cases a : am_c1 .lt x = true
    · have k := k lsC Hc locs hl hL hI hS z1 z2
      dsimp only at k; rw [if_pos a] at k
      exact lv_if_lt (tgt := ((pc : Int) + off).toNat) hx hb hd (by omega) (fun _ => k) (fun c1 => absurd (of_decide_eq_true a) c1)
    · have k := k lsC Hc locs hl hL hI hS z1 z2
      dsimp only at k; rw [if_neg a] at k
      exact lv_if_lt (tgt := ((pc : Int) + off).toNat) hx hb hd (by omega) (fun c1 => absurd (decide_eq_true c1) a) (fun _ => k)
  | ge =>
    by_cases a : am_c1 .ge x = true
    · have k := k lsC Hc locs hl hL hI hS z1 z2
      dsimp only at k; rw [if_pos a] at k
      exact lv_if_ge (tgt := ((pc : Int) + off).toNat) hx hb hd (by omega) (fun _ => k) (fun c1 => absurd (of_decide_eq_true a) c1)
    · have k := k lsC Hc locs hl hL hI hS z1 z2
      dsimp only at k; rw [if_neg a] at k
      exact lv_if_ge (tgt := ((pc : Int) + off).toNat) hx hb hd (by omega) (fun c1 => absurd (decide_eq_true c1) a) (fun _ => k)
  | gt =>
    by_cases a : am_c1 .gt x = true
    · have k := k lsC Hc locs hl hL hI hS z1 z2
      dsimp only at k; rw [if_pos a] at k
      exact lv_if_gt (tgt := ((pc : Int) + off).toNat) hx hb hd (by omega) (fun _ => k) (fun c1 => absurd (of_decide_eq_true a) c1)
    · have k := k lsC Hc locs hl hL hI hS z1 z2
      dsimp only at k; rw [if_neg a] at k
      exact lv_if_gt (tgt := ((pc : Int) + off).toNat) hx hb hd (by omega) (fun c1 => absurd (decide_eq_true c1) a) (fun _ => k)
  | le =>
    by_cases a : am_c1 .le x = true
    · have k := k lsC Hc locs hl hL hI hS z1 z2
      dsimp only at k; rw [if_pos a] at k
      exact lv_if_le (tgt := ((pc : Int) + off).toNat) hx hb hd (by omega) (fun _ => k) (fun c1 => absurd (of_decide_eq_true a) c1)
    · have k := k lsC Hc locs hl hL hI hS z1 z2
      dsimp only at k; rw [if_neg a] at k
      exact lv_if_le (tgt := ((pc : Int) + off).toNat) hx hb hd (by omega) (fun c1 => absurd (decide_eq_true c1) a) (fun _ => k)
theorem am_w_icmp (C : am_Cx p R s m args meth c g mi sz0) {pc : Nat} {ls : am_L} {st : List Value} {H : am_H} {r : Nat × am_L × List Value × am_H} {q : ClassFile.Cond} {off : Int} (hd : decode mi.2.1 pc = .ok (.if_icmp q off, 3)) (h : am_step g.2.2.2 mi (.if_icmp q off) pc ls st H = some r) (k : am_K p l e R s m args below meth c Q g mi sz0 sl0 r.1 r.2.1 r.2.2.1 r.2.2.2) : am_K p l e R s m args below meth c Q g mi sz0 sl0 pc ls st H := by
  intro lsC Hc locs hl hL hI hS z1 z2
  obtain ⟨hx, hb, hml, hown, hts, hini, hR, hKn, hB⟩ := C
  obtain ⟨x, y, st0, rfl, ho, rfl⟩ := am_if2_inv h
  cases q with
  | eq =>
    by_cases a : am_c2 .eq x y = true
    · have k := k lsC Hc locs hl hL hI hS z1 z2
      dsimp only at k; rw [if_pos a] at k
      exact lv_icmp_eq (tgt := ((pc : Int) + off).toNat) hx hb hd (by omega) (fun _ => k) (fun c1 => absurd (of_decide_eq_true a) c1)
    · have k := k lsC Hc locs hl hL hI hS z1 z2
      dsimp only at k; rw [if_neg a] at k
      exact lv_icmp_eq (tgt := ((pc : Int) + off).toNat) hx hb hd (by omega) (fun c1 => absurd (decide_eq_true c1) a) (fun _ => k)
  | ne =>
    by_cases a : am_c2 .ne x y = true
    · have k := k lsC Hc locs hl hL hI hS z1 z2
      dsimp only at k; rw [if_pos a] at k
      exact lv_icmp_ne (tgt := ((pc : Int) + off).toNat) hx hb hd (by omega) (fun _ => k) (fun c1 => absurd c1 (of_decide_eq_true a))
    · have k := k lsC Hc locs hl hL hI hS z1 z2
      dsimp only at k; rw [if_neg a] at k
      exact lv_icmp_ne (tgt := ((pc : Int) + off).toNat) hx hb hd (by omega) (fun c1 => absurd (decide_eq_true c1) a) (fun _ => k)
  | lt =>
    by_cases a : am_c2 .lt x y = true
    · have k := k lsC Hc locs hl hL hI hS z1 z2
      dsimp only at k; rw [if_pos a] at k
      exact lv_icmp_lt (tgt := ((pc : Int) + off).toNat) hx hb hd (by omega) (fun _ => k) (fun c1 => absurd (of_decide_eq_true a) c1)
    · have k := k lsC Hc locs hl hL hI hS z1 z2
      dsimp only at k; rw [if_neg a] at k
      exact lv_icmp_lt (tgt := ((pc : Int) + off).toNat) hx hb hd (by omega) (fun c1 => absurd (decide_eq_true c1) a) (fun _ => k)
  | ge =>
    by_cases a : am_c2 .ge x y = true
    · have k := k lsC Hc locs hl hL hI hS z1 z2
      dsimp only at k; rw [if_pos a] at k
      exact lv_icmp_ge (tgt := ((pc : Int) + off).toNat) hx hb hd (by omega) (fun _ => k) (fun c1 => absurd (of_decide_eq_true a) c1)
    · have k := k lsC Hc locs hl hL hI hS z1 z2
      dsimp only at k; rw [if_neg a] at k
      exact lv_icmp_ge (tgt := ((pc : Int) + off).toNat) hx hb hd (by omega) (fun c1 => absurd (decide_eq_true c1) a) (fun _ => k)
  | gt =>
    by_cases a : am_c2 .gt x y = true
    · have k := k lsC Hc locs hl hL hI hS z1 z2
      dsimp only at k; rw [if_pos a] at k
      exact lv_icmp_gt (tgt := ((pc : Int) + off).toNat) hx hb hd (by omega) (fun _ => k) (fun c1 => absurd (of_decide_eq_true a) c1)
    · have k := k lsC Hc locs hl hL hI hS z1 z2
      dsimp only at k; rw [if_neg a] at k
      exact lv_icmp_gt (tgt := ((pc : Int) + off).toNat) hx hb hd (by omega) (fun c1 => absurd (decide_eq_true c1) a) (fun _ => k)
  | le =>
    by_cases a : am_c2 .le x y = true
    · have k := k lsC Hc locs hl hL hI hS z1 z2
      dsimp only at k; rw [if_pos a] at k
      exact lv_icmp_le (tgt := ((pc : Int) + off).toNat) hx hb hd (by omega) (fun _ => k) (fun c1 => absurd (of_decide_eq_true a) c1)
    · have k := k lsC Hc locs hl hL hI hS z1 z2
      dsimp only at k; rw [if_neg a] at k
      exact lv_icmp_le (tgt := ((pc : Int) + off).toNat) hx hb hd (by omega) (fun c1 => absurd (decide_eq_true c1) a) (fun _ => k)
theorem am_w_ifnn (C : am_Cx p R s m args meth c g mi sz0) {pc : Nat} {ls : am_L} {st : List Value} {H : am_H} {r : Nat × am_L × List Value × am_H} {off : Int} (hd : decode mi.2.1 pc = .ok (.ifnonnull off, 3)) (h : am_step g.2.2.2 mi (.ifnonnull off) pc ls st H = some r) (k : am_K p l e R s m args below meth c Q g mi sz0 sl0 r.1 r.2.1 r.2.2.1 r.2.2.2) : am_K p l e R s m args below meth c Q g mi sz0 sl0 pc ls st H := by
  intro lsC Hc locs hl hL hI hS z1 z2
  obtain ⟨hx, hb, hml, hown, hts, hini, hR, hKn, hB⟩ := C
  have h : am_nn off pc ls st H = some r := h
  unfold am_nn at h
  split at h
  · obtain ⟨ho, rfl⟩ := am_tgt_inv h
    exact lv_ifnonnull (tgt := ((pc : Int) + off).toNat) hx hb hd (by omega) (k _ _ _ hl hL hI hS z1 z2)
  · cases h; exact lv_ifnonnullN hx hb hd (k _ _ _ hl hL hI hS z1 z2)
  · cases h
theorem am_w_goto (C : am_Cx p R s m args meth c g mi sz0) {pc : Nat} {ls : am_L} {st : List Value} {H : am_H} {r : Nat × am_L × List Value × am_H} {off : Int} (hd : decode mi.2.1 pc = .ok (.goto off, 3)) (h : am_step g.2.2.2 mi (.goto off) pc ls st H = some r) (k : am_K p l e R s m args below meth c Q g mi sz0 sl0 r.1 r.2.1 r.2.2.1 r.2.2.2) : am_K p l e R s m args below meth c Q g mi sz0 sl0 pc ls st H := by
  intro lsC Hc locs hl hL hI hS z1 z2
  obtain ⟨hx, hb, hml, hown, hts, hini, hR, hKn, hB⟩ := C
  obtain ⟨ho, rfl⟩ := am_tgt_inv h
  exact lv_goto (tgt := ((pc : Int) + off).toNat) hx hb hd (by omega) (k _ _ _ hl hL hI hS z1 z2)
theorem am_w_tsw (C : am_Cx p R s m args meth c g mi sz0) {pc : Nat} {ls : am_L} {st : List Value} {H : am_H} {r : Nat × am_L × List Value × am_H} {n0 : Nat} {d lo hi : Int} {offs : Array Int} (hd : decode mi.2.1 pc = .ok (.tableswitch d lo hi offs, n0)) (h : am_step g.2.2.2 mi (.tableswitch d lo hi offs) pc ls st H = some r) (k : am_K p l e R s m args below meth c Q g mi sz0 sl0 r.1 r.2.1 r.2.2.1 r.2.2.2) : am_K p l e R s m args below meth c Q g mi sz0 sl0 pc ls st H := by
  intro lsC Hc locs hl hL hI hS z1 z2
  obtain ⟨hx, hb, hml, hown, hts, hini, hR, hKn, hB⟩ := C
  have h : am_tsw d lo hi offs pc ls st H = some r := h
  unfold am_tsw at h
  split at h
  · split at h
    · obtain ⟨ho, rfl⟩ := am_tgt_inv h
      exact lv_tableOut (tgt := ((pc : Int) + d).toNat) hx hb hd (by assumption) (by omega) (k _ _ _ hl hL hI hS z1 z2)
    · rename_i q
      split at h
      · rename_i off hoff
        obtain ⟨ho, rfl⟩ := am_tgt_inv h
        exact lv_tableIn (tgt := ((pc : Int) + off).toNat) hx hb hd (fun z => q (Or.inl z)) (fun z => q (Or.inr z)) hoff (by omega) (k _ _ _ hl hL hI hS z1 z2)
      · cases h
  · cases h
theorem am_w_lsw (C : am_Cx p R s m args meth c g mi sz0) {pc : Nat} {ls : am_L} {st : List Value} {H : am_H} {r : Nat × am_L × List Value × am_H} {n0 : Nat} {d : Int} {ps : Array (Int × Int)} (hd : decode mi.2.1 pc = .ok (.lookupswitch d ps, n0)) (h : am_step g.2.2.2 mi (.lookupswitch d ps) pc ls st H = some r) (k : am_K p l e R s m args below meth c Q g mi sz0 sl0 r.1 r.2.1 r.2.2.1 r.2.2.2) : am_K p l e R s m args below meth c Q g mi sz0 sl0 pc ls st H := by
  intro lsC Hc locs hl hL hI hS z1 z2
  obtain ⟨hx, hb, hml, hown, hts, hini, hR, hKn, hB⟩ := C
  have h : am_lsw d ps pc ls st H = some r := h
  unfold am_lsw at h
  split at h
  · split at h
    · obtain ⟨ho, rfl⟩ := am_tgt_inv h
      exact lv_lookup (tgt := ((pc : Int) + Op.lookupswitch.offset ps.toList d _).toNat) hx hb hd (by assumption) rfl (by omega) (k _ _ _ hl hL hI hS z1 z2)
    · cases h
  · cases h
end AMS
end
section
theorem am_tyA_comp {t : Nat} (h0 : 0 < t) (h4 : t < 4) : am_tyA t = .object (am_cn (am_comp t)) := by
  match t, h0, h4 with
  | 1, _, _ => rfl
  | 2, _, _ => rfl
  | 3, _, _ => rfl
theorem am_tx0 (k : Nat) : (TX0 k).1 = RX0 := by unfold TX0; split <;> rfl
theorem am_tx1 (k : Nat) : (TX1 k).1 = RX1 := by unfold TX1; split <;> rfl
theorem am_tx2 (k : Nat) : (TX2 k).1 = RX2 := by unfold TX2; split <;> rfl
theorem am_tx3 (k : Nat) : (TX3 k).1 = RX3 := by unfold TX3; split <;> rfl
theorem am_tx4 (k : Nat) : (TX4 k).1 = RX4 := by unfold TX4; split <;> rfl
theorem am_tx5 (k : Nat) : (TX5 k).1 = RX5 := by unfold TX5; split <;> rfl
theorem am_tx6 (k : Nat) : (TX6 k).1 = RX6 := by unfold TX6; split <;> rfl
theorem am_tx7 (k : Nat) : (TX7 k).1 = RX7 := by unfold TX7; split <;> rfl
theorem am_tx8 (k : Nat) : (TX8 k).1 = RX8 := by unfold TX8; split <;> rfl
theorem am_tx9 (k : Nat) : (TX9 k).1 = RX9 := by unfold TX9; split <;> rfl
theorem am_tx10 (k : Nat) : (TX10 k).1 = RX10 := by unfold TX10; split <;> rfl
theorem am_tx11 (k : Nat) : (TX11 k).1 = RX11 := by unfold TX11; split <;> rfl
theorem am_finOwn {ci k c : Nat} {r : vw_C} (hr : vwCl[ci]? = some r) (hk : k < r.2.2) (hf : (r.2.1 k).2.2.2 = true) (h : ci = c) : (r.2.1 k).1 = am_cn c := by
  subst h
  match ci, hr with
  | 0, hr => cases hr; exact am_tx0 k
  | 1, hr => cases hr; exact am_tx1 k
  | 2, hr => cases hr; exact am_tx2 k
  | 3, hr => cases hr; exact am_tx3 k
  | 4, hr => cases hr; exact am_tx4 k
  | 5, hr => cases hr; exact am_tx5 k
  | 6, hr => cases hr; exact am_tx6 k
  | 7, hr => cases hr; exact am_tx7 k
  | 8, hr => cases hr; exact am_tx8 k
  | 9, hr => cases hr; exact am_tx9 k
  | 10, hr => cases hr; exact am_tx10 k
  | 11, hr => cases hr; exact am_tx11 k
  | n + 12, h => simp [vwCl] at h
theorem am_nn_i (z : Int32) (hz : ¬ z < 0) : z.toInt = (z.toNatClampNeg : Int) := by
  have hz0 : (0 : Int) ≤ z.toInt := by
    have := Int32.not_lt.mp hz
    simpa using Int32.le_iff_toInt_le.mp this
  show z.toInt = ((z.toInt.toNat : Nat) : Int)
  omega
theorem am_copyW {p : Program} {l : Launch} {e : Env} {R : Room} {s : State} {m : MethodId} {args : Array Value} {below : List Frame} {meth : Method} {c : Code} {H : Heap} {locs : List Loc} {cells slots : Nat} {Q : State → Prop} {cc : ByteArray} {pc : Nat} {ls : Array Slot} {rest : List Value} (hexec : p.tables.exec = Jvm.exec) (hb : c.code = cc) (hml : c.maxLocals = ls.size) {own : String} {index : Nat} (hown : s.vm.findClass own = some m.cls) (hlink : (Cond.methodLink own index arraycopyName).before args s = true) (hnat : (Cond.native arraycopyName).before args s = true) (hstat : (Cond.static arraycopyName).before args s = true) (hini : (Cond.initialized "java/lang/System").before args s = true)
    {cA : ClassId} (hAr : ArrOfT s cA .int) {a a0 : Nat} {n0 n1 : Nat} {f f1 : Nat → Int32} (hc0 : H[a0]? = some (vp_cell cA (n0, .inl f))) (hc1 : H[a]? = some (vp_cell cA (n1, .inl f1)))
    {sp dp n : Int32} (h1 : ¬ sp < 0) (h2 : ¬ dp < 0) (h3 : ¬ n < 0) (h4 : sp.toNatClampNeg + n.toNatClampNeg ≤ n0) (h5 : dp.toNatClampNeg + n.toNatClampNeg ≤ n1)
    (hframes : 1 ≤ R.frames) (hlocals : (rest.map fun v => v.category).sum + 18 ≤ R.locals) (hdg : decode cc pc = .ok (.invokestatic index, 3))
    (kk : ∀ (H1 : Heap) (L : List Loc), H1[a]? = some (vp_cell cA (n1, .inl (va_cpy f f1 sp.toNatClampNeg dp.toNatClampNeg n.toNatClampNeg))) → H1.size = H.size → (∀ q : Nat, q ≠ a → H1[q]? = H[q]?) → (∀ q ∈ L, q.base = a) → W p l e R s m args below meth c H1 (locs ++ L) cells slots Q (F0 m (pc + 3) ls rest)) : W p l e R s m args below meth c H locs cells slots Q (F0 m pc ls (.int n :: .int dp :: .ref a :: .int sp :: .ref a0 :: rest)) := by
  intro T hT X
  obtain ⟨-, k0, hk0, cm0, hkk0⟩ := hAr n0 (fun j => .int (f j))
  obtain ⟨-, k1, hk1, cm1, hkk1⟩ := hAr n1 (fun j => .int (f1 j))
  obtain ⟨vm', X', step⟩ := X.arraycopy hexec hown hlink hnat hstat hini (src := a0) (dst := a) (cs := vp_cell cA (n0, .inl f)) (cd := vp_cell cA (n1, .inl f1)) (srcPos := sp) (destPos := dp) (n := n) (by rw [hT]; exact hc0) (by rw [hT]; exact hc1)
    (fun _ h => by cases h) (fun _ h => by cases h) (fun h => by cases h) (fun h => by cases h) hk0 hk1 hkk0 hkk1 (by simp [refKind]) h1 h2 h3
    (by rw [am_nn_i sp h1, am_nn_i n h3]; show ¬ _ > ((arrV cA n0 (fun j => .int (f j))).slots.size : Int); rw [arrV_size]; omega)
    (by rw [am_nn_i dp h2, am_nn_i n h3]; show ¬ _ > ((arrV cA n1 (fun j => .int (f1 j))).slots.size : Int); rw [arrV_size]; omega)
    (fun vm₁ _ i hi => by
      have e : (vp_cell cA (n0, .inl f)).slots.getD (sp.toNatClampNeg + i) .null = .int (f (sp.toNatClampNeg + i)) := by
        show (arrV cA n0 (fun j => .int (f j))).slots.getD _ _ = _
        rw [Array.getD_eq_getD_getElem?, arrV_read _ _ (by omega)]
        rfl
      refine ⟨?_, ?_⟩
      · rw [e]
        rfl
      · rw [e]
        exact trivial)
    (g := F0 m pc ls (.int n :: .int dp :: .ref a :: .int sp :: .ref a0 :: rest)) rfl (by rw [hml]) (rest := rest) rfl (by rw [hb]; exact hdg) hframes (by show 2 * 0 + _ + 18 ≤ _; omega)
  have e1 : copied (vp_cell cA (n0, .inl f)) (vp_cell cA (n1, .inl f1)) sp dp n = vp_cell cA (n1, .inl (va_cpy f f1 sp.toNatClampNeg dp.toNatClampNeg n.toNatClampNeg)) := va_copied (fun z => .int z) cA cA f f1 h4
  rw [e1] at X' step
  have hl : a < H.size := (Array.getElem?_eq_some_iff.mp hc1).1
  have hheap : ((T.setVm vm').setCell a (vp_cell cA (n1, .inl (va_cpy f f1 sp.toNatClampNeg dp.toNatClampNeg n.toNatClampNeg)))).heap = H.setIfInBounds a (vp_cell cA (n1, .inl (va_cpy f f1 sp.toNatClampNeg dp.toNatClampNeg n.toNatClampNeg))) := by rw [← hT]; rfl
  obtain ⟨t, a1, b1⟩ := kk _ _ (by simp [Array.getElem?_setIfInBounds, hl]) (by simp) (fun q hq => by simp [Array.getElem?_setIfInBounds, Ne.symm hq]) (fun q hq => by
      obtain ⟨z, -, hz⟩ := List.mem_map.mp hq
      rw [← hz]) _ hheap X'
  exact ⟨t, step t a1, b1⟩
set_option maxRecDepth 100000 in
theorem am_wgets : Cond.fieldLink RX11 99 "CardTabulator" "MOST_OF_SETTING" "[I" ∈ wsL_law := wr14 _ (List.mem_of_getElem? (i := 5) rfl)
set_option maxRecDepth 100000 in
theorem am_wobj1 : Cond.instanceMethod objectInit ∈ wsL_law := wr1 _ (List.mem_of_getElem? (i := 7) rfl)
set_option maxRecDepth 100000 in
theorem am_wobj2 : Cond.code objectInit ⟨#[0xb1]⟩ 1 none ∈ wsL_law := wr1 _ (List.mem_of_getElem? (i := 8) rfl)
set_option maxRecDepth 100000 in
theorem am_wcp1 : Cond.native arraycopyName ∈ wsL_law := wr12 _ (List.mem_of_getElem? (i := 20) rfl)
set_option maxRecDepth 100000 in
theorem am_wcp2 : Cond.static arraycopyName ∈ wsL_law := wr12 _ (List.mem_of_getElem? (i := 21) rfl)
set_option maxRecDepth 100000 in
theorem am_wcp3 : Cond.initialized "java/lang/System" ∈ wsL_law := wr12 _ (List.mem_of_getElem? (i := 22) rfl)
set_option maxRecDepth 100000 in
theorem am_wmin1 : Cond.static Lib.Math.min.name ∈ wsL_law := wr9 _ (List.mem_of_getElem? (i := 10) rfl)
set_option maxRecDepth 100000 in
theorem am_wmin2 : Cond.code Lib.Math.min.name Lib.Math.min.code 2 (some .int) ∈ wsL_law := wr9 _ (List.mem_of_getElem? (i := 12) rfl)
set_option maxRecDepth 100000 in
theorem am_wabs1 : Cond.static Lib.Math.abs.name ∈ wsL_law := wr16 _ (List.mem_of_getElem? (i := 1) rfl)
set_option maxRecDepth 100000 in
theorem am_wabs2 : Cond.code Lib.Math.abs.name Lib.Math.abs.code 1 (some .int) ∈ wsL_law := wr16 _ (List.mem_of_getElem? (i := 2) rfl)
set_option maxRecDepth 100000 in
theorem am_wmath : Cond.initialized "java/lang/Math" ∈ wsL_law := wr9 _ (List.mem_of_getElem? (i := 11) rfl)
set_option maxRecDepth 100000 in
theorem am_warr : Cond.arrayClass .int ∈ wsL_law := wr3 _ (List.mem_of_getElem? (i := 9) rfl)
section AMH
variable {p : Program} {l : Launch} {e : Env} {R : Room} {s : State} {m : MethodId} {args : Array Value} {below : List Frame} {meth : Method} {c : Code} {Q : State → Prop} {g : am_g} {mi : am_I} {sz0 sl0 : Nat}
theorem am_okv_sp {ty : FieldType} {v : Value} (h : am_okv ty v = true) : narrow ty v = v ∧ fits ty v = true := by
  cases ty <;> cases v <;> first | exact ⟨rfl, rfl⟩ | cases h
theorem am_bl_V {ci : Nat} {r : vw_C} (hr : vwCl[ci]? = some r) {j : Nat} (hj : j < r.2.2) : defaultValue (am_tys ci j) = vp_V (am_bl ci) j := by
  unfold am_bl vp_V
  rw [hr]
  simp [List.getD_eq_getElem?_getD, hj]
theorem am_bl_len {ci : Nat} {r : vw_C} (hr : vwCl[ci]? = some r) : (am_bl ci).length = r.2.2 := by
  unfold am_bl
  rw [hr]
  simp
theorem am_nf_e {ci : Nat} {r : vw_C} (hr : vwCl[ci]? = some r) : am_nf ci = r.2.2 := by
  unfold am_nf
  rw [hr]
theorem am_one {g : am_g} {a ci : Nat} {fs : List Value} {r : vw_C} {Hc : Heap} (hr : vwCl[ci]? = some r) (ho : t_OB a (g.1.1 ci) r.2.2 (g.1.2 ci) Hc (vp_V fs)) : va_P g.1 vwCl [(a, .inr (ci, fs))] Hc := by
  intro j q hq
  cases j with
  | zero => cases hq; exact ⟨r, hr, ho⟩
  | succ j => simp at hq
theorem am_iarr {a t n : Nat} {f : Nat → Int32} {Hc : Heap} (hKn : am_Kn g s) (h : am_at g s a (.inl (t, n, .inl f)) Hc) (ht : t = 0 ∨ t = 9) : ∃ cell : Cell, Hc[a]? = some cell ∧ s.isArrayOf cell .int ∧ cell.vm ≠ .unknown ∧ n ≤ cell.slots.size ∧ cell.slots.size.toInt32 = Int32.ofNat n ∧ ∀ j : Nat, j < n → cell.slots[j]? = some (.int (f j)) := by
  rcases h with ⟨h1, h2, n', f', h3, cell, q1, q2, q3, q4, q5, q6, q7⟩ | ⟨h1, h2, h3⟩
  · cases h3
    exact ⟨cell, q1, q2, q3, q4, q5, q6⟩
  · have h0 : t = 0 := by omega
    subst h0
    refine ⟨_, h3, (hKn.2.1 0 (by decide)).1 n (fun j => .int (f j)), (fun q => by cases q), ?_, ?_, fun j hj => ?_⟩
    · show n ≤ (arrV _ _ _).slots.size
      rw [arrV_size]
      exact Nat.le_refl _
    · show (arrV _ _ _).slots.size.toInt32 = _
      rw [arrV_size]
      try rfl
    · show (arrV _ _ _).slots[j]? = _
      rw [arrV_read _ _ hj]
theorem am_w_getf (C : am_Cx p R s m args meth c g mi sz0) {pc : Nat} {ls : am_L} {st : List Value} {H : am_H} {r : Nat × am_L × List Value × am_H} {cp : Nat} (hd : decode mi.2.1 pc = .ok (.getfield cp, 3)) (h : am_step g.2.2.2 mi (.getfield cp) pc ls st H = some r) (hRm : r.2.2.2.2.1 - sz0 ≤ R.cells ∧ r.2.2.2.2.2 - sl0 ≤ R.slots) (k : am_K p l e R s m args below meth c Q g mi sz0 sl0 r.1 r.2.1 r.2.2.1 r.2.2.2) : am_K p l e R s m args below meth c Q g mi sz0 sl0 pc ls st H := by
  intro lsC Hc locs hl hL hI hS z1 z2
  obtain ⟨hx, hb, hml, hown, hts, hini, hR, hKn, hB⟩ := C
  replace h : am_getf mi.1 cp (pc + 3) ls st H = some r := h
  unfold am_getf at h
  split at h
  · rename_i a st0 ci q hlk
    split at h
    · rename_i cj fs ha
      split at h
      · rename_i hci
        subst hci
        split at h
        · rename_i v hv
          cases h
          obtain ⟨r0, hr0, hk, hw⟩ := am_fldP _ _ (am_lk _ _ _ hlk)
          dsimp only at hr0 hk hw
          obtain ⟨-, r1, hr1, hlen, hob⟩ := (hI.2.2.2 a _ ha).2
          cases hr1.symm.trans hr0
          obtain ⟨hin, hty, hnm, hcn⟩ := am_clP _ _ hr0
          exact va_get (D := g.1) (ci := cj) (C := r0.1) (T := r0.2.1) (N := r0.2.2) (tys := []) hx hb hts hin hown hKn.1 (am_one hr0 hob) 0 rfl hr0 q hk (hts _ hw) (fun _ z => z) hv hd (k _ _ _ hl hL hI hS z1 z2)
        · cases h
      · cases h
    · cases h
  · cases h
theorem am_w_putf (C : am_Cx p R s m args meth c g mi sz0) {pc : Nat} {ls : am_L} {st : List Value} {H : am_H} {r : Nat × am_L × List Value × am_H} {cp : Nat} (hd : decode mi.2.1 pc = .ok (.putfield cp, 3)) (h : am_step g.2.2.2 mi (.putfield cp) pc ls st H = some r) (hRm : r.2.2.2.2.1 - sz0 ≤ R.cells ∧ r.2.2.2.2.2 - sl0 ≤ R.slots) (k : am_K p l e R s m args below meth c Q g mi sz0 sl0 r.1 r.2.1 r.2.2.1 r.2.2.2) : am_K p l e R s m args below meth c Q g mi sz0 sl0 pc ls st H := by
  intro lsC Hc locs hl hL hI hS z1 z2
  obtain ⟨hx, hb, hml, hown, hts, hini, hR, hKn, hB⟩ := C
  replace h : am_putf (am_ini mi) mi.1 cp (pc + 3) ls st H = some r := h
  unfold am_putf at h
  split at h
  · rename_i v a st0 ci q hlk
    split at h
    · rename_i cj fs ha
      split at h
      · rename_i hcond
        obtain ⟨hci, hok, hfin⟩ := hcond
        subst hci
        cases h
        obtain ⟨r0, hr0, hk, hw⟩ := am_fldP _ _ (am_lk _ _ _ hlk)
        dsimp only at hr0 hk hw
        have hlt := (hI.2.2.2 a _ ha).1
        obtain ⟨hBa, r1, hr1, hlen, hob⟩ := (hI.2.2.2 a _ ha).2
        cases hr1.symm.trans hr0
        obtain ⟨hin, hty, hnm, hcn⟩ := am_clP _ _ hr0
        obtain ⟨hn, hfit⟩ := am_okv_sp hok
        have hap := va_apart (own := "") hts hin (am_tys cj) hty hnm hKn.1 hr0
        obtain ⟨cell, q1, q2, q3, q4⟩ := hob
        obtain ⟨hSl, hfc, kC, hkC, hkind⟩ := hKn.1.1 cj _ hr0
        obtain ⟨cf, kf, fi, f, hi, hsl⟩ := hSl q hk
        have hst := (u_facts hfc hkC (u_lays hts hin hk) hi).1
        have hlay := hts _ (hin _ (u_in_lay hk))
        unfold u_lay at hlay
        have hkk : ∀ H1 : Heap, H1[a]? = some (cell.setSlot f.slot v) → H1.size = Hc.size → (∀ q, q ≠ a → H1[q]? = Hc[q]?) → W p l e R s m args below meth c H1 (locs ++ [⟨a, f.slot⟩]) (H.2.1 - sz0) (H.2.2 - sl0) Q (F0 m (pc + 3) lsC st0) := by
          intro H1 e1 e2 e3
          rw [hsl] at e1
          refine k lsC H1 _ hl hL (hI.put e2 e3 hBa hlt ⟨hBa, r0, hr0, by rw [List.length_set]; exact hlen, ?_⟩) (hS.put e2 e3 hBa) z1 z2
          exact t_OB.to (V := updV (vp_V fs) q v) ⟨_, e1, q2, q3, t_set q4 hap hk v⟩ (fun j _ => vp_updV_set (by omega) v j)
        by_cases hf : (r0.2.1 q).2.2.2 = true
        · rw [if_pos hf] at hlay
          rcases hfin with hfin | ⟨hi1, hi2⟩
          · unfold am_fin at hfin
            rw [hr0] at hfin
            exact absurd (hf.symm.trans hfin) (by decide)
          · have hcf : m.cls = cf := by
              obtain ⟨_, _, c', _, _, _, -, -, hf', -, -, -, hown2, -⟩ := Cond.laysFinal_spec hlay
              have e1 : c' = cf := by have := hi.symm.trans hf'; simp at this; exact this.1.symm
              have e2 : (r0.2.1 q).1 = am_cn mi.1 := am_finOwn hr0 hk hf hi2
              rw [e2] at hown2
              rw [← e1]; exact Option.some.inj (hown.symm.trans hown2)
            have h6 := u_fits hfc hkC hkind (Or.inr hlay) hi (hty q hk) hn hfit
            exact W.putFinK hx hb hown (hts _ hw) hi hst hcf (hini hi1) (by rw [q2]; exact h6) q1 q3 (by rw [hsl]; exact k2_hasslot (q4 q hk)) rfl rfl hd hkk
        · rw [if_neg hf] at hlay
          have h6 := u_store hfc hkC hkind hlay hi (hty q hk) hn hfit
          exact W.putK hx hb (f := f) ⟨hown, hts _ hw, ⟨_, _, _, hi⟩, hst⟩ (by rw [q2]; exact h6) q1 q3 (by rw [hsl]; exact k2_hasslot (q4 q hk)) rfl rfl hd hkk
      · cases h
    · cases h
  · cases h
theorem am_w_gets (C : am_Cx p R s m args meth c g mi sz0) {pc : Nat} {ls : am_L} {st : List Value} {H : am_H} {r : Nat × am_L × List Value × am_H} {cp : Nat} (hd : decode mi.2.1 pc = .ok (.getstatic cp, 3)) (h : am_step g.2.2.2 mi (.getstatic cp) pc ls st H = some r) (hRm : r.2.2.2.2.1 - sz0 ≤ R.cells ∧ r.2.2.2.2.2 - sl0 ≤ R.slots) (k : am_K p l e R s m args below meth c Q g mi sz0 sl0 r.1 r.2.1 r.2.2.1 r.2.2.2) : am_K p l e R s m args below meth c Q g mi sz0 sl0 pc ls st H := by
  intro lsC Hc locs hl hL hI hS z1 z2
  obtain ⟨hx, hb, hml, hown, hts, hini, hR, hKn, hB⟩ := C
  replace h : am_gets g.2.2.2 mi.1 cp (pc + 3) ls st H = some r := h
  unfold am_gets at h
  split at h
  · rename_i q
    cases h
    obtain ⟨q1, q2⟩ := q
    subst q2
    rw [q1] at hown
    obtain ⟨cf, kf, fi, f, a, cell, h1, h2, h3, h4, h5, h6, h7, h8⟩ := hI.2.2.1
    exact W.gets hx hb hown (hts _ am_wgets) h1 h2 h3 h4 h5 (fun e => by rw [e] at h6; cases h6) h7 rfl hd (k _ _ _ hl hL hI hS z1 z2)
  · cases h
theorem am_w_new (C : am_Cx p R s m args meth c g mi sz0) {pc : Nat} {ls : am_L} {st : List Value} {H : am_H} {r : Nat × am_L × List Value × am_H} {cp : Nat} (hd : decode mi.2.1 pc = .ok (.new cp, 3)) (h : am_step g.2.2.2 mi (.new cp) pc ls st H = some r) (hRm : r.2.2.2.2.1 - sz0 ≤ R.cells ∧ r.2.2.2.2.2 - sl0 ≤ R.slots) (k : am_K p l e R s m args below meth c Q g mi sz0 sl0 r.1 r.2.1 r.2.2.1 r.2.2.2) : am_K p l e R s m args below meth c Q g mi sz0 sl0 pc ls st H := by
  intro lsC Hc locs hl hL hI hS z1 z2
  obtain ⟨hx, hb, hml, hown, hts, hini, hR, hKn, hB⟩ := C
  replace h : am_new mi.1 cp (pc + 3) ls st H = some r := h
  unfold am_new at h
  split at h
  · rename_i ci hlk
    cases h
    obtain ⟨r0, hr0, hw1, hw2, hw3⟩ := am_newP _ _ (am_lk _ _ _ hlk)
    dsimp only at hr0 hw1 hRm
    have hnf := am_nf_e hr0
    obtain ⟨hin, hty, hnm, hcn⟩ := am_clP _ _ hr0
    have hKc := hKn.1.1 ci _ hr0
    refine W.newcK hx hb hown (hts _ hw1) (hts _ hw2) (hts _ hw3) rfl hd (by omega) (by omega) hKc.2.1 rfl fun H1 kC hkC e1 y1 o1 => ?_
    have k := k lsC H1 locs hl hL (hI.push (c' := .inr (ci, am_bl ci)) y1 o1 ⟨hI.2.1, r0, hr0, am_bl_len hr0, (u_born (am_tys ci) hts hin hKc hkC (by rw [← hI.1]; exact e1) hty).to (fun j hj => am_bl_V hr0 hj)⟩) ⟨Nat.le_trans hS.1 (by omega), fun x g1 g2 => (o1 x (Nat.lt_of_lt_of_le g1 hS.1)).trans (hS.2.1 x g1 g2), hS.2.2⟩ (by show sz0 ≤ H.2.1 + 1; omega) (by show sl0 ≤ H.2.2 + am_nf ci; omega)
    dsimp only at k
    rw [show H.2.1 + 1 - sz0 = (H.2.1 - sz0) + 1 by omega, show H.2.2 + am_nf ci - sl0 = (H.2.2 - sl0) + r0.2.2 by omega] at k
    rw [hI.1]
    exact k
  · cases h
theorem am_w_newa (C : am_Cx p R s m args meth c g mi sz0) {pc : Nat} {ls : am_L} {st : List Value} {H : am_H} {r : Nat × am_L × List Value × am_H} {t : ArrayType} (hd : decode mi.2.1 pc = .ok (.newarray t, 2)) (h : am_step g.2.2.2 mi (.newarray t) pc ls st H = some r) (hRm : r.2.2.2.2.1 - sz0 ≤ R.cells ∧ r.2.2.2.2.2 - sl0 ≤ R.slots) (k : am_K p l e R s m args below meth c Q g mi sz0 sl0 r.1 r.2.1 r.2.2.1 r.2.2.2) : am_K p l e R s m args below meth c Q g mi sz0 sl0 pc ls st H := by
  intro lsC Hc locs hl hL hI hS z1 z2
  obtain ⟨hx, hb, hml, hown, hts, hini, hR, hKn, hB⟩ := C
  replace h : (if t = .int then am_newa (pc + 2) ls st H else none) = some r := h
  split at h
  · rename_i ht
    subst ht
    unfold am_newa at h
    split at h
    · rename_i n st0
      split at h
      · rename_i hc
        cases h
        dsimp only at hRm
        refine va_newaK (atype := .int) hx hb (hts _ am_warr) rfl hd rfl (am_nlt hc.1) rfl (by show _ * 4 ≤ _; omega) (by omega) (by omega) rfl fun H1 cA e1 y1 o1 hAr hNm => ?_
        have hA0 : s.vm.findClass ("[" ++ (FieldType.int).toString) = some (g.2.1 0) := (hKn.2.1 0 (by decide)).2
        cases hNm.symm.trans hA0
        have k := k lsC H1 locs hl hL (hI.push (c' := .inl (0, n.toNatClampNeg, .inl (fun _ => 0))) y1 o1 (Or.inr ⟨by decide, hI.2.1, by rw [← hI.1]; exact e1⟩)) ⟨Nat.le_trans hS.1 (by omega), fun x g1 g2 => (o1 x (Nat.lt_of_lt_of_le g1 hS.1)).trans (hS.2.1 x g1 g2), hS.2.2⟩ (by show sz0 ≤ H.2.1 + 1; omega) (by show sl0 ≤ H.2.2 + _; omega)
        dsimp only at k
        rw [show H.2.1 + 1 - sz0 = (H.2.1 - sz0) + 1 by omega, show H.2.2 + n.toNatClampNeg - sl0 = (H.2.2 - sl0) + n.toNatClampNeg by omega] at k
        rw [hI.1]
        exact k
      · cases h
    · cases h
  · cases h
theorem am_w_anew (C : am_Cx p R s m args meth c g mi sz0) {pc : Nat} {ls : am_L} {st : List Value} {H : am_H} {r : Nat × am_L × List Value × am_H} {cp : Nat} (hd : decode mi.2.1 pc = .ok (.anewarray cp, 3)) (h : am_step g.2.2.2 mi (.anewarray cp) pc ls st H = some r) (hRm : r.2.2.2.2.1 - sz0 ≤ R.cells ∧ r.2.2.2.2.2 - sl0 ≤ R.slots) (k : am_K p l e R s m args below meth c Q g mi sz0 sl0 r.1 r.2.1 r.2.2.1 r.2.2.2) : am_K p l e R s m args below meth c Q g mi sz0 sl0 pc ls st H := by
  intro lsC Hc locs hl hL hI hS z1 z2
  obtain ⟨hx, hb, hml, hown, hts, hini, hR, hKn, hB⟩ := C
  replace h : am_anew mi.1 cp (pc + 3) ls st H = some r := h
  unfold am_anew at h
  split at h
  · rename_i n st0 t hlk
    split at h
    · rename_i hc
      cases h
      dsimp only at hRm
      obtain ⟨⟨ht0, ht4⟩, hw⟩ := am_anP _ _ (am_lk _ _ _ hlk)
      dsimp only at ht0 ht4 hw
      have hcmp : am_tyA t = .object (am_cn (am_comp t)) := am_tyA_comp ht0 ht4
      refine W.anew hx hb hown (hts _ hw) (va_AO.use (hKn.2.2.1 t ht0 ht4)) rfl hd rfl (am_nlt hc.1) (by omega) (by omega) (by omega) fun cA kA comp f1 f2 f3 f4 => ?_
      generalize hH1 : Hc.push ({ cls := cA, slots := Array.replicate n.toNatClampNeg .null, vm := .none } : Cell) = H1
      have y1 : H1.size = Hc.size + 1 := by rw [← hH1, Array.size_push]
      have e1 : H1[Hc.size]? = some (arrV cA n.toNatClampNeg (fun _ => .null)) := by rw [← hH1, Array.getElem?_push_size, ← arrV_new]
      have o1 : ∀ q : Nat, q < Hc.size → H1[q]? = Hc[q]? := fun q hq => by rw [← hH1, Array.getElem?_push, if_neg (Nat.ne_of_lt hq)]
      have hA0 := (hKn.2.1 t ht4).2
      rw [hcmp] at hA0
      obtain ⟨kA2, comp2, w1, w2, w3, w4⟩ := hA0
      cases f1.symm.trans w4
      have k := k lsC H1 locs hl hL (hI.push (c' := .inl (t, n.toNatClampNeg, .inr (.inr (.inr (.inr (fun _ => none)))))) y1 o1 (Or.inr ⟨ht4, hI.2.1, by rw [← hI.1]; exact e1⟩)) ⟨Nat.le_trans hS.1 (by omega), fun x g1 g2 => (o1 x (Nat.lt_of_lt_of_le g1 hS.1)).trans (hS.2.1 x g1 g2), hS.2.2⟩ (by show sz0 ≤ H.2.1 + 1; omega) (by show sl0 ≤ H.2.2 + _; omega)
      dsimp only at k
      rw [show H.2.1 + 1 - sz0 = (H.2.1 - sz0) + 1 by omega, show H.2.2 + n.toNatClampNeg - sl0 = (H.2.2 - sl0) + n.toNatClampNeg by omega] at k
      rw [hI.1]
      exact k
    · cases h
  · cases h
theorem am_w_iald (C : am_Cx p R s m args meth c g mi sz0) {pc : Nat} {ls : am_L} {st : List Value} {H : am_H} {r : Nat × am_L × List Value × am_H}  (hd : decode mi.2.1 pc = .ok (.iaload, 1)) (h : am_step g.2.2.2 mi (.iaload) pc ls st H = some r) (hRm : r.2.2.2.2.1 - sz0 ≤ R.cells ∧ r.2.2.2.2.2 - sl0 ≤ R.slots) (k : am_K p l e R s m args below meth c Q g mi sz0 sl0 r.1 r.2.1 r.2.2.1 r.2.2.2) : am_K p l e R s m args below meth c Q g mi sz0 sl0 pc ls st H := by
  intro lsC Hc locs hl hL hI hS z1 z2
  obtain ⟨hx, hb, hml, hown, hts, hini, hR, hKn, hB⟩ := C
  replace h : am_iald (pc + 1) ls st H = some r := h
  unfold am_iald at h
  split at h
  · rename_i i a st0
    split at h
    · rename_i t n f ha
      split at h
      · rename_i hc
        obtain ⟨ht, h0, h1⟩ := hc
        cases h
        obtain ⟨cell, q1, q2, q3, q4, q5, q6⟩ := am_iarr hKn (hI.2.2.2 a _ ha).2 ht
        exact W.iald (v := .int (f i.toNatClampNeg)) hx hb q1 q2 q3 (am_in h0 (by omega)) (q6 _ h1) rfl rfl hd (k _ _ _ hl hL hI hS z1 z2)
      · cases h
    · cases h
  · cases h
theorem am_w_alen (C : am_Cx p R s m args meth c g mi sz0) {pc : Nat} {ls : am_L} {st : List Value} {H : am_H} {r : Nat × am_L × List Value × am_H}  (hd : decode mi.2.1 pc = .ok (.arraylength, 1)) (h : am_step g.2.2.2 mi (.arraylength) pc ls st H = some r) (hRm : r.2.2.2.2.1 - sz0 ≤ R.cells ∧ r.2.2.2.2.2 - sl0 ≤ R.slots) (k : am_K p l e R s m args below meth c Q g mi sz0 sl0 r.1 r.2.1 r.2.2.1 r.2.2.2) : am_K p l e R s m args below meth c Q g mi sz0 sl0 pc ls st H := by
  intro lsC Hc locs hl hL hI hS z1 z2
  obtain ⟨hx, hb, hml, hown, hts, hini, hR, hKn, hB⟩ := C
  replace h : am_alen (pc + 1) ls st H = some r := h
  unfold am_alen at h
  split at h
  · rename_i a st0
    split at h
    · rename_i t n f ha
      split at h
      · rename_i ht
        cases h
        obtain ⟨cell, q1, q2, q3, q4, q5, q6⟩ := am_iarr hKn (hI.2.2.2 a _ ha).2 ht
        exact W.alen (n := Int32.ofNat n) hx hb q1 q2 q5 rfl rfl hd (k _ _ _ hl hL hI hS z1 z2)
      · cases h
    · cases h
  · cases h
theorem am_w_iast (C : am_Cx p R s m args meth c g mi sz0) {pc : Nat} {ls : am_L} {st : List Value} {H : am_H} {r : Nat × am_L × List Value × am_H}  (hd : decode mi.2.1 pc = .ok (.iastore, 1)) (h : am_step g.2.2.2 mi (.iastore) pc ls st H = some r) (hRm : r.2.2.2.2.1 - sz0 ≤ R.cells ∧ r.2.2.2.2.2 - sl0 ≤ R.slots) (k : am_K p l e R s m args below meth c Q g mi sz0 sl0 r.1 r.2.1 r.2.2.1 r.2.2.2) : am_K p l e R s m args below meth c Q g mi sz0 sl0 pc ls st H := by
  intro lsC Hc locs hl hL hI hS z1 z2
  obtain ⟨hx, hb, hml, hown, hts, hini, hR, hKn, hB⟩ := C
  replace h : am_iast (pc + 1) ls st H = some r := h
  unfold am_iast at h
  split at h
  · rename_i x i a st0
    split at h
    · rename_i t n f ha
      split at h
      · rename_i hc
        obtain ⟨ht, h0, h1⟩ := hc
        subst ht
        cases h
        have hlt := (hI.2.2.2 a _ ha).1
        rcases (hI.2.2.2 a _ ha).2 with ⟨w1, -⟩ | ⟨-, hBa, hcell⟩
        · exact absurd w1 (by decide)
        · refine W.iast hx hb hcell ((hKn.2.1 0 (by decide)).1 n (fun j => .int (f j))) (fun q => by cases q) (by show ¬ (i < 0 ∨ (arrV _ _ _).slots.size ≤ _); rw [arrV_size]; exact am_in h0 h1) rfl rfl hd fun H1 e1 y1 oq => ?_
          refine k lsC H1 _ hl hL (hI.put y1 oq hBa hlt (Or.inr ⟨by decide, hBa, ?_⟩)) (hS.put y1 oq hBa) z1 z2
          rw [e1, vp_cell_i, vp_cell_i, arrV_store]
          congr 2
          funext q
          by_cases hq : q = i.toNatClampNeg
          · subst hq
            simp [updV, upd]
          · simp [updV, upd, hq]
      · cases h
    · cases h
  · cases h
theorem am_w_aald (C : am_Cx p R s m args meth c g mi sz0) {pc : Nat} {ls : am_L} {st : List Value} {H : am_H} {r : Nat × am_L × List Value × am_H}  (hd : decode mi.2.1 pc = .ok (.aaload, 1)) (h : am_step g.2.2.2 mi (.aaload) pc ls st H = some r) (hRm : r.2.2.2.2.1 - sz0 ≤ R.cells ∧ r.2.2.2.2.2 - sl0 ≤ R.slots) (k : am_K p l e R s m args below meth c Q g mi sz0 sl0 r.1 r.2.1 r.2.2.1 r.2.2.2) : am_K p l e R s m args below meth c Q g mi sz0 sl0 pc ls st H := by
  intro lsC Hc locs hl hL hI hS z1 z2
  obtain ⟨hx, hb, hml, hown, hts, hini, hR, hKn, hB⟩ := C
  replace h : am_aald (pc + 1) ls st H = some r := h
  unfold am_aald at h
  split at h
  · rename_i i a st0
    split at h
    · rename_i t n f ha
      split at h
      · rename_i hc
        obtain ⟨⟨ht0, ht4⟩, h0, h1⟩ := hc
        cases h
        rcases (hI.2.2.2 a _ ha).2 with ⟨w1, -⟩ | ⟨-, hBa, hcell⟩
        · exact absurd w1 (by omega)
        · have hcmp : am_tyA t = .object (am_cn (am_comp t)) := am_tyA_comp ht0 ht4
          have hAr := (hKn.2.1 t ht4).1 n (fun j => va_rf (f j))
          rw [hcmp] at hAr
          exact W.aald (v := va_rf (f i.toNatClampNeg)) (ty := .object (am_cn (am_comp t))) hx hb hcell hAr rfl (fun q => by cases q) (by show ¬ (i < 0 ∨ (arrV _ _ _).slots.size ≤ _); rw [arrV_size]; exact am_in h0 h1) (by show (arrV _ _ _).slots[_]? = _; rw [arrV_read _ _ h1]) rfl rfl hd (k _ _ _ hl hL hI hS z1 z2)
      · cases h
    · cases h
  · cases h
theorem am_w_aast (C : am_Cx p R s m args meth c g mi sz0) {pc : Nat} {ls : am_L} {st : List Value} {H : am_H} {r : Nat × am_L × List Value × am_H}  (hd : decode mi.2.1 pc = .ok (.aastore, 1)) (h : am_step g.2.2.2 mi (.aastore) pc ls st H = some r) (hRm : r.2.2.2.2.1 - sz0 ≤ R.cells ∧ r.2.2.2.2.2 - sl0 ≤ R.slots) (k : am_K p l e R s m args below meth c Q g mi sz0 sl0 r.1 r.2.1 r.2.2.1 r.2.2.2) : am_K p l e R s m args below meth c Q g mi sz0 sl0 pc ls st H := by
  intro lsC Hc locs hl hL hI hS z1 z2
  obtain ⟨hx, hb, hml, hown, hts, hini, hR, hKn, hB⟩ := C
  replace h : am_aast (pc + 1) ls st H = some r := h
  unfold am_aast at h
  split at h
  · rename_i b i a st0
    split at h
    · rename_i t n f ci vs ha hbq
      split at h
      · rename_i hc
        obtain ⟨⟨⟨ht0, ht4⟩, hci⟩, h0, h1⟩ := hc
        cases h
        have hlt := (hI.2.2.2 a _ ha).1
        rcases (hI.2.2.2 a _ ha).2 with ⟨w1, -⟩ | ⟨-, hBa, hcell⟩
        · exact absurd w1 (by omega)
        · have hcmp : am_tyA t = .object (am_cn (am_comp t)) := am_tyA_comp ht0 ht4
          obtain ⟨-, r1, hr1, hlen, cellV, g1, g2, g3, -⟩ := (hI.2.2.2 b _ hbq).2
          obtain ⟨hin, hty, hnm, hcn⟩ := am_clP _ _ hr1
          have hcls := (hKn.1.1 ci _ hr1).2
          have hRA := (hKn.2.1 t ht4).2
          rw [hcmp, ← hci] at hRA
          obtain ⟨kA, comp, k1, k2, k3, -⟩ := hRA
          have hcomp : comp = g.1.1 ci := by
            have h9 := hcls.1
            rw [hcn] at h9
            exact Option.some.inj (k3.symm.trans h9)
          subst hcomp
          obtain ⟨kC, hkC, -⟩ := hcls.2
          refine W.aast hx hb hcell (fun q h => by cases h) (fun h => by cases h) k1 k2 rfl hkC ⟨am_nlt h0, by show _ < (arrV _ _ _).slots.size; rw [arrV_size]; exact h1⟩ g1 (fun q h => by rw [g3] at h; cases h) (by rw [g2]; exact hkC) (by rw [g2]; exact va_assign hcls) rfl rfl hd fun H1 e1 y1 oq => ?_
          refine k lsC H1 _ hl hL (hI.put y1 oq hBa hlt (Or.inr ⟨ht4, hBa, ?_⟩)) (hS.put y1 oq hBa) z1 z2
          rw [e1, vp_cell_q, vp_cell_q, arrV_store]
          congr 2
          funext q
          by_cases hq : q = i.toNatClampNeg
          · subst hq
            simp [updV, va_up, va_rf]
          · simp [updV, va_up, hq]
      · cases h
    · cases h
  · cases h
theorem am_w_objI (C : am_Cx p R s m args meth c g mi sz0) {pc : Nat} {ls : am_L} {st : List Value} {H : am_H} {r : Nat × am_L × List Value × am_H} {cp : Nat} (hd : decode mi.2.1 pc = .ok (.invokespecial cp, 3)) (h : am_step g.2.2.2 mi (.invokespecial cp) pc ls st H = some r) (hRm : r.2.2.2.2.1 - sz0 ≤ R.cells ∧ r.2.2.2.2.2 - sl0 ≤ R.slots) (k : am_K p l e R s m args below meth c Q g mi sz0 sl0 r.1 r.2.1 r.2.2.1 r.2.2.2) : am_K p l e R s m args below meth c Q g mi sz0 sl0 pc ls st H := by
  intro lsC Hc locs hl hL hI hS z1 z2
  obtain ⟨hx, hb, hml, hown, hts, hini, hR, hKn, hB⟩ := C
  replace h : am_objI mi cp pc ls st H = some r := h
  unfold am_objI at h
  split at h
  · rename_i hlk
    unfold am_obj at h
    split at h
    · rename_i a st0
      split at h
      · rename_i hc
        cases h
        have hw := (am_spP _ _ (am_lk _ _ _ hlk)).1 rfl
        have hsum : (st0.map fun v => v.category).sum + 12 ≤ mi.2.2.2.2.2.2 := hc.2
        exact W.objInit hx hb hown (hts _ hw) (hts _ am_wobj1) (hts _ am_wobj2) (g := F0 m pc lsC (.ref a :: st0)) rfl (hl.1.trans (hL.trans hml.symm)) rfl hd (by rw [hR.1]; exact hc.1) (by show 2 * 0 + _ + 12 ≤ _; rw [hR.2]; omega) (k _ _ _ hl hL hI hS z1 z2)
      · cases h
    · cases h
  · cases h
theorem am_w_stat (C : am_Cx p R s m args meth c g mi sz0) {pc : Nat} {ls : am_L} {st : List Value} {H : am_H} {r : Nat × am_L × List Value × am_H} {cp : Nat} (hd : decode mi.2.1 pc = .ok (.invokestatic cp, 3)) (h : am_step g.2.2.2 mi (.invokestatic cp) pc ls st H = some r) (hRm : r.2.2.2.2.1 - sz0 ≤ R.cells ∧ r.2.2.2.2.2 - sl0 ≤ R.slots) (k : am_K p l e R s m args below meth c Q g mi sz0 sl0 r.1 r.2.1 r.2.2.1 r.2.2.2) : am_K p l e R s m args below meth c Q g mi sz0 sl0 pc ls st H := by
  intro lsC Hc locs hl hL hI hS z1 z2
  obtain ⟨hx, hb, hml, hown, hts, hini, hR, hKn, hB⟩ := C
  replace h : am_special mi cp pc ls st H = some r := h
  unfold am_special at h
  split at h
  · rename_i hlk
    unfold am_copy at h
    split at h
    · rename_i n dp a sp a0 st0
      split at h
      · rename_i t0 n0 f t1 n1 f1 ha0 ha
        split at h
        · rename_i hc
          obtain ⟨⟨ht0, ht1⟩, ⟨p1, p2, p3⟩, ⟨p4, p5⟩, p6, p7⟩ := hc
          subst ht0
          subst ht1
          cases h
          have hw := (am_spP _ _ (am_lk _ _ _ hlk)).2.1 rfl
          have hlt := (hI.2.2.2 a _ ha).1
          rcases (hI.2.2.2 a0 _ ha0).2 with ⟨w1, -⟩ | ⟨-, -, hc0⟩
          · exact absurd w1 (by decide)
          rcases (hI.2.2.2 a _ ha).2 with ⟨w1, -⟩ | ⟨-, hBa, hc1⟩
          · exact absurd w1 (by decide)
          have hsum : (st0.map fun v => v.category).sum + 18 ≤ mi.2.2.2.2.2.2 := p7
          exact am_copyW hx hb (hml.trans (hL.symm.trans hl.1.symm)) hown (hts _ hw) (hts _ am_wcp1) (hts _ am_wcp2) (hts _ am_wcp3) (hKn.2.1 0 (by decide)).1 hc0 hc1 (am_nlt p1) (am_nlt p2) (am_nlt p3) p4 p5 (by rw [hR.1]; exact p6) (by rw [hR.2]; exact hsum) hd (fun H1 locs1 e1 y1 oq hlo => k lsC H1 _ hl hL (hI.put y1 oq hBa hlt (Or.inr ⟨by decide, hBa, e1⟩)) ⟨by rw [y1]; exact hS.1, fun q g1 g2 => (oq q (fun e => g2 (by rw [e]; exact hBa))).trans (hS.2.1 q g1 g2), fun q hq => by
            rcases List.mem_append.mp hq with h | h
            · exact hS.2.2 q h
            · rw [hlo q h]; exact hBa⟩ z1 z2)
        · cases h
      · cases h
    · cases h
  · rename_i hlk
    unfold am_min at h
    split at h
    · rename_i y x st0
      split at h
      · rename_i hc
        cases h
        have hw := (am_spP _ _ (am_lk _ _ _ hlk)).2.2.1 rfl
        have hsum : (st0.map fun v => v.category).sum + 13 ≤ mi.2.2.2.2.2.2 := hc.2
        exact va_mmin hx hb (hml.trans (hL.symm.trans hl.1.symm)) hown (hts _ hw) (hts _ am_wmin1) (hts _ am_wmath) (hts _ am_wmin2) (by rw [hR.1]; exact hc.1) (by rw [hR.2]; exact hsum) hRm.1 hRm.2 hd (k _ _ _ hl hL hI hS z1 z2)
      · cases h
    · cases h
  · rename_i hlk
    unfold am_abs at h
    split at h
    · rename_i x st0
      split at h
      · rename_i hc
        cases h
        have hw := (am_spP _ _ (am_lk _ _ _ hlk)).2.2.2 rfl
        have hsum : (st0.map fun v => v.category).sum + 13 ≤ mi.2.2.2.2.2.2 := hc.2
        exact va_mabs hx hb (hml.trans (hL.symm.trans hl.1.symm)) hown (hts _ hw) (hts _ am_wabs1) (hts _ am_wmath) (hts _ am_wabs2) (by rw [hR.1]; exact hc.1) (by rw [hR.2]; exact hsum) hRm.1 hRm.2 hd (k _ _ _ hl hL hI hS z1 z2)
      · cases h
    · cases h
  · cases h
end AMH
end
section
section AMX
variable {p : Program} {l : Launch} {e : Env} {R : Room} {s : State} {m : MethodId} {args : Array Value} {below : List Frame} {meth : Method} {c : Code} {Q : State → Prop} {g : am_g} {mi : am_I} {sz0 sl0 : Nat}
set_option maxHeartbeats 4000000 in
theorem am_step_snd (C : am_Cx p R s m args meth c g mi sz0) {i : Instr} {n0 pc : Nat} {ls : am_L} {st : List Value} {H : am_H} {r : Nat × am_L × List Value × am_H} (hd : decode mi.2.1 pc = .ok (i, n0)) (hn : am_lenOk i n0 = true) (h : am_step g.2.2.2 mi i pc ls st H = some r) (hRm : r.2.2.2.2.1 - sz0 ≤ R.cells ∧ r.2.2.2.2.2 - sl0 ≤ R.slots) (k : am_K p l e R s m args below meth c Q g mi sz0 sl0 r.1 r.2.1 r.2.2.1 r.2.2.2) : am_K p l e R s m args below meth c Q g mi sz0 sl0 pc ls st H := by
  cases i with
  | iconst v => cases (show n0 = 1 by simpa [am_lenOk] using hn); exact am_w_iconst C hd h k
  | bipush v => cases (show n0 = 2 by simpa [am_lenOk] using hn); exact am_w_bipush C hd h k
  | sipush v => cases (show n0 = 3 by simpa [am_lenOk] using hn); exact am_w_sipush C hd h k
  | aconst_null => cases (show n0 = 1 by simpa [am_lenOk] using hn); exact am_w_null C hd h k
  | ldc cp => cases (show n0 = 2 by simpa [am_lenOk] using hn); exact am_w_ldc C hd h k
  | ldc2_w cp => cases (show n0 = 3 by simpa [am_lenOk] using hn); exact am_w_ldc2 C hd h k
  | fconst f => cases (show n0 = 1 by simpa [am_lenOk] using hn); exact am_w_fconst C hd h k
  | iload_n i => cases (show n0 = 1 by simpa [am_lenOk] using hn); exact am_w_iload_n C hd h k
  | lload_n i => cases (show n0 = 1 by simpa [am_lenOk] using hn); exact am_w_lload_n C hd h k
  | iload i => cases (show n0 = 2 by simpa [am_lenOk] using hn); exact am_w_iload C hd h k
  | lload i => cases (show n0 = 2 by simpa [am_lenOk] using hn); exact am_w_lload C hd h k
  | dload i => cases (show n0 = 2 by simpa [am_lenOk] using hn); exact am_w_dload C hd h k
  | aload_n i => cases (show n0 = 1 by simpa [am_lenOk] using hn); exact am_w_aload_n C hd h k
  | aload i => cases (show n0 = 2 by simpa [am_lenOk] using hn); exact am_w_aload C hd h k
  | istore_n i => cases (show n0 = 1 by simpa [am_lenOk] using hn); exact am_w_istore_n C hd h k
  | istore i => cases (show n0 = 2 by simpa [am_lenOk] using hn); exact am_w_istore C hd h k
  | lstore_n i => cases (show n0 = 1 by simpa [am_lenOk] using hn); exact am_w_lstore_n C hd h k
  | lstore i => cases (show n0 = 2 by simpa [am_lenOk] using hn); exact am_w_lstore C hd h k
  | dstore i => cases (show n0 = 2 by simpa [am_lenOk] using hn); exact am_w_dstore C hd h k
  | astore_n i => cases (show n0 = 1 by simpa [am_lenOk] using hn); exact am_w_astore_n C hd h k
  | astore i => cases (show n0 = 2 by simpa [am_lenOk] using hn); exact am_w_astore C hd h k
  | iinc i v => cases (show n0 = 3 by simpa [am_lenOk] using hn); exact am_w_iinc C hd h k
  | iadd => cases (show n0 = 1 by simpa [am_lenOk] using hn); exact am_w_iadd C hd h k
  | isub => cases (show n0 = 1 by simpa [am_lenOk] using hn); exact am_w_isub C hd h k
  | imul => cases (show n0 = 1 by simpa [am_lenOk] using hn); exact am_w_imul C hd h k
  | iand => cases (show n0 = 1 by simpa [am_lenOk] using hn); exact am_w_iand C hd h k
  | ior => cases (show n0 = 1 by simpa [am_lenOk] using hn); exact am_w_ior C hd h k
  | ixor => cases (show n0 = 1 by simpa [am_lenOk] using hn); exact am_w_ixor C hd h k
  | ishl => cases (show n0 = 1 by simpa [am_lenOk] using hn); exact am_w_ishl C hd h k
  | ishr => cases (show n0 = 1 by simpa [am_lenOk] using hn); exact am_w_ishr C hd h k
  | idiv => cases (show n0 = 1 by simpa [am_lenOk] using hn); exact am_w_idiv C hd h k
  | irem => cases (show n0 = 1 by simpa [am_lenOk] using hn); exact am_w_irem C hd h k
  | ladd => cases (show n0 = 1 by simpa [am_lenOk] using hn); exact am_w_ladd C hd h k
  | lmul => cases (show n0 = 1 by simpa [am_lenOk] using hn); exact am_w_lmul C hd h k
  | lcmp => cases (show n0 = 1 by simpa [am_lenOk] using hn); exact am_w_lcmp C hd h k
  | ldiv => cases (show n0 = 1 by simpa [am_lenOk] using hn); exact am_w_ldiv C hd h k
  | ineg => cases (show n0 = 1 by simpa [am_lenOk] using hn); exact am_w_ineg C hd h k
  | i2l => cases (show n0 = 1 by simpa [am_lenOk] using hn); exact am_w_i2l C hd h k
  | l2i => cases (show n0 = 1 by simpa [am_lenOk] using hn); exact am_w_l2i C hd h k
  | l2f => cases (show n0 = 1 by simpa [am_lenOk] using hn); exact am_w_l2f C hd h k
  | i2f => cases (show n0 = 1 by simpa [am_lenOk] using hn); exact am_w_i2f C hd h k
  | f2d => cases (show n0 = 1 by simpa [am_lenOk] using hn); exact am_w_f2d C hd h k
  | fdiv => cases (show n0 = 1 by simpa [am_lenOk] using hn); exact am_w_fdiv C hd h k
  | dcmp op => cases (show n0 = 1 by simpa [am_lenOk] using hn); exact am_w_dcmp C hd h k
  | fcmp op => cases (show n0 = 1 by simpa [am_lenOk] using hn); exact am_w_fcmp C hd h k
  | dup => cases (show n0 = 1 by simpa [am_lenOk] using hn); exact am_w_dup C hd h k
  | dup2 => cases (show n0 = 1 by simpa [am_lenOk] using hn); exact am_w_dup2 C hd h k
  | ifCond q off => cases (show n0 = 3 by simpa [am_lenOk] using hn); exact am_w_ifCond C hd h k
  | if_icmp q off => cases (show n0 = 3 by simpa [am_lenOk] using hn); exact am_w_icmp C hd h k
  | ifnonnull off => cases (show n0 = 3 by simpa [am_lenOk] using hn); exact am_w_ifnn C hd h k
  | goto off => cases (show n0 = 3 by simpa [am_lenOk] using hn); exact am_w_goto C hd h k
  | getfield cp => cases (show n0 = 3 by simpa [am_lenOk] using hn); exact am_w_getf C hd h hRm k
  | putfield cp => cases (show n0 = 3 by simpa [am_lenOk] using hn); exact am_w_putf C hd h hRm k
  | getstatic cp => cases (show n0 = 3 by simpa [am_lenOk] using hn); exact am_w_gets C hd h hRm k
  | new cp => cases (show n0 = 3 by simpa [am_lenOk] using hn); exact am_w_new C hd h hRm k
  | newarray t => cases (show n0 = 2 by simpa [am_lenOk] using hn); exact am_w_newa C hd h hRm k
  | anewarray cp => cases (show n0 = 3 by simpa [am_lenOk] using hn); exact am_w_anew C hd h hRm k
  | iaload => cases (show n0 = 1 by simpa [am_lenOk] using hn); exact am_w_iald C hd h hRm k
  | arraylength => cases (show n0 = 1 by simpa [am_lenOk] using hn); exact am_w_alen C hd h hRm k
  | iastore => cases (show n0 = 1 by simpa [am_lenOk] using hn); exact am_w_iast C hd h hRm k
  | aaload => cases (show n0 = 1 by simpa [am_lenOk] using hn); exact am_w_aald C hd h hRm k
  | aastore => cases (show n0 = 1 by simpa [am_lenOk] using hn); exact am_w_aast C hd h hRm k
  | invokespecial cp => cases (show n0 = 3 by simpa [am_lenOk] using hn); exact am_w_objI C hd h hRm k
  | invokestatic cp => cases (show n0 = 3 by simpa [am_lenOk] using hn); exact am_w_stat C hd h hRm k
  | tableswitch d lo hi offs => exact am_w_tsw C hd h k
  | lookupswitch d ps => exact am_w_lsw C hd h k
  | _ => exact absurd h (by simp [am_step])
theorem am_mono (sA : Nat) : ∀ (n : Nat) (mi : am_I) (pc : Nat) (ls : am_L) (st : List Value) (H : am_H) (r : Option Value) (H' : am_H), am_exec sA n mi pc ls st H = some (r, H') → H.2.1 ≤ H'.2.1 ∧ H.2.2 ≤ H'.2.2
  | 0, _, _, _, _, _, _, _, h => by simp [am_exec] at h
  | n + 1, mi, pc, ls, st, H, r, H', h => by
    unfold am_exec at h
    split at h
    · cases h
    · split at h
      · split at h
        · cases h
          exact ⟨Nat.le_refl _, Nat.le_refl _⟩
        · split at h
          · split at h
            · split at h
              · rename_i r1 H1 h1
                have a := am_mono sA n _ _ _ _ _ _ _ h1
                have b := am_mono sA n _ _ _ _ _ _ _ h
                exact ⟨Nat.le_trans a.1 b.1, Nat.le_trans a.2 b.2⟩
              · cases h
            · cases h
          · split at h
            · split at h
              · rename_i q
                have b := am_mono sA n _ _ _ _ _ _ _ h
                exact ⟨Nat.le_trans q.1 b.1, Nat.le_trans q.2 b.2⟩
              · cases h
            · cases h
      · cases h
theorem am_ret_len {i : Instr} {n0 : Nat} {st : List Value} {r : Option Value} (h : am_ret mi i st = some r) (hn : am_lenOk i n0 = true) : n0 = 1 := by
  unfold am_ret at h
  split at h <;> first | (simpa [am_lenOk] using hn) | cases h
theorem am_ofW {y : MethodName} {ws ws' : List Jvm.Cond} {rm : Room} {Pc : Array Value → State → Prop} {Qc : Array Value → State → Outcome → State → Prop} {mc ms : Nat} {free : Addr → Prop} {cc : ByteArray} {maxL : Nat} {ret : Option FieldType}
    (hy : plainFor y = true) (hw : ws = Jvm.Cond.code y cc maxL ret :: ws')
    (body : ∀ p e s m args below meth c s₁, BodyLoose p l y (headSpec ws rm) cc maxL ret e s m args below meth c s₁ → c.maxLocals = maxL → Pc args s →
      W p l e (headSpec ws rm).room s m args below meth c s.heap [] 0 0 (MQ below Qc args s mc ms free) (entryFrame m args maxL)) : Met l y ws rm Pc Qc mc ms free := by
  refine MetFree.of_bodySF (code := cc) (maxLocals := maxL) (ret := ret) hy ?_ ?_
  · intro args s m h hn
    obtain ⟨meth, c, h1, h2, h3, h4, h5, h6, -, -⟩ := Cond.code_spec hn (atoms_spec (ws := ws) h _ (by rw [hw]; exact List.mem_cons_self))
    exact ⟨meth, c, h1, h2, h3, h4, h5, h6⟩
  · intro p e s m args below meth c s₁ B hml hP _
    have hh0 : s₁.heap = s.heap := by rw [B.state]; rfl
    obtain ⟨t, a1, o, b1, b2, b3⟩ := body p e s m args below meth c s₁ B hml hP s₁ hh0 (Stand.of_body B)
    exact ⟨t, o, a1, b1, b2, ⟨b3.1, b3.2⟩⟩
def am_Pc (g : am_g) (As : List Value) (H : am_H) : Array Value → State → Prop := va_Pc As (fun U => am_Inv g U H U.heap ∧ am_Kn g U)
def am_Qc (g : am_g) (r : Option Value) (H' : am_H) : Array Value → State → Outcome → State → Prop := fun _ st o t => o = .returned r ∧ am_Inv g t H' t.heap ∧ va_F (fun q => g.2.2.1 ≤ q) st t
theorem am_blind (g : am_g) (As : List Value) (H : am_H) : FrameBlind (am_Pc g As H) := by
  rintro a U fr mk ⟨h1, h2, h3⟩
  exact ⟨h1, am_Inv.moved (u := U) (U := U.calling fr mk a) (Vm.Alike.refl U.vm) h2, am_Kn.same (u := U) (U := U.calling fr mk a) rfl h3⟩
theorem am_callK {rest st0 : List Value} {Hc : Heap} {locs : List Loc} {cells slots mc ms pc : Nat} {lsC : Array Slot} {r : Option Value} {H1 : am_H} {a : Array Value} (hr : va_Run p l e R s m args below meth c Hc locs cells slots mc ms (F0 m pc lsC st0) rest (am_Qc g r H1 a) (fun q => g.2.2.1 ≤ q)) (hS : va_S (fun q => g.2.2.1 ≤ q) s.heap Hc locs)
    (kk : ∀ (Hc1 : Heap) (locs1 : List Loc), am_Inv g s H1 Hc1 → va_S (fun q => g.2.2.1 ≤ q) s.heap Hc1 locs1 → W p l e R s m args below meth c Hc1 locs1 (cells + mc) (slots + ms) Q (F0 m (pc + 3) lsC (r.toList ++ rest))) : W p l e R s m args below meth c Hc locs cells slots Q (F0 m pc lsC st0) := by
  intro T hT X
  obtain ⟨v, st₀, t, T', L, h0, X', hL, e1, e2, ⟨hv, hI, hz, hk⟩, st⟩ := hr T hT X
  cases hv
  rw [h0] at hz hk
  have hal : s.vm.Alike t.vm := by rw [← e2]; exact X'.warmed.alike
  obtain ⟨t2, a1, b1⟩ := kk T'.heap (locs ++ L) (by rw [e1]; exact hI.moved hal.symm) ⟨Nat.le_trans hS.1 (by rw [e1]; exact hz), fun q h1 h2 => by rw [e1, hk q (Nat.lt_of_lt_of_le h1 hS.1) h2]; exact hS.2.1 q h1 h2, fun q hq => by
      rcases List.mem_append.mp hq with h | h
      · exact hS.2.2 q h
      · exact hL q h⟩ T' rfl X'
  exact ⟨t2, st t2 a1, b1⟩
theorem am_flat_sl : ∀ vs : List Value, am_flat vs = (lg_sl vs).map (fun x => match x with | .val v => some v | _ => none)
  | [] => rfl
  | v :: vs => by
    have ih := am_flat_sl vs
    unfold am_flat lg_sl at ih ⊢
    rw [List.flatMap_cons, List.flatMap_cons, List.map_append, ← ih]
    congr 1
    by_cases h : v.category = 2 <;> simp [h]
theorem am_entry_len {vs : List Value} {n : Nat} (h : (am_flat vs).length ≤ n) : (am_entry vs n).length = n := by
  unfold am_entry
  rw [List.length_append, List.length_replicate]
  omega
theorem am_entry_has {vs : List Value} {n : Nat} (h : (am_flat vs).length ≤ n) : am_Has ((lg_sl vs ++ List.replicate (n - (lg_sl vs).length) Slot.unset).toArray) (am_entry vs n) := by
  have e : (am_flat vs).length = (lg_sl vs).length := by rw [am_flat_sl, List.length_map]
  have hl := lv_entry vs (n := n) (by omega)
  refine ⟨by rw [am_entry_len h]; exact hl.1, hl.2.1, fun q hq => ?_⟩
  have hq := am_al_mem.mp hq
  unfold am_entry at hq
  rw [List.getElem?_toArray]
  by_cases hlt : q.1 < (am_flat vs).length
  · rw [List.getElem?_append_left hlt, am_flat_sl, List.getElem?_map] at hq
    rw [List.getElem?_append_left (by omega)]
    cases hx : (lg_sl vs)[q.1]? with
    | none => rw [hx] at hq; cases hq
    | some x =>
      rw [hx] at hq
      cases x with
      | val v => simp at hq; rw [hq]
      | second => simp at hq
      | unset => simp at hq
  · rw [List.getElem?_append_right (by omega), List.getElem?_replicate] at hq
    split at hq
    · cases hq
    · cases hq
end AMX
end
section
section AMZ
variable {l : Launch} {g : am_g}
/-- what the soundness says at a fuel -/
def am_SND (l : Launch) (g : am_g) (n : Nat) : Prop := ∀ (mi : am_I) (pc : Nat) (ls : am_L) (st : List Value) (H : am_H) (r : Option Value) (H' : am_H), am_exec g.2.2.2 n mi pc ls st H = some (r, H') → ∀ (p : Program) (e : Env) (R : Room) (s : State) (m : MethodId) (args : Array Value) (below : List Frame) (meth : Method) (c : Code) (Q : State → Prop) (sz0 sl0 : Nat), am_Cx p R s m args meth c g mi sz0 → (H'.2.1 - sz0 ≤ R.cells ∧ H'.2.2 - sl0 ≤ R.slots) →
  (∀ (i : Instr) (pc' : Nat) (ls' : am_L) (st' : List Value), decode mi.2.1 pc' = .ok (i, 1) → am_ret mi i st' = some r → am_K p l e R s m args below meth c Q g mi sz0 sl0 pc' ls' st' H') → am_K p l e R s m args below meth c Q g mi sz0 sl0 pc ls st H
def am_rm (mj : am_I) (H H' : am_H) : Room := { frames := mj.2.2.2.2.2.1, cells := H'.2.1 - H.2.1, slots := H'.2.2 - H.2.2, locals := mj.2.2.2.2.2.2 }
def am_ws (mj : am_I) : List Jvm.Cond := Jvm.Cond.code mj.2.2.1 mj.2.1 mj.2.2.2.1 mj.2.2.2.2.1 :: wsL_law
theorem am_endK {p : Program} {e : Env} {R : Room} {s : State} {m : MethodId} {args : Array Value} {below : List Frame} {meth : Method} {c : Code} {mi : am_I} {sz0 sl0 : Nat} {r : Option Value} {H' : am_H} (hx : p.tables.exec = Jvm.exec) (hb : c.code = mi.2.1) (hr : meth.sig.returnType = mi.2.2.2.2.1) (hlocks : meth.locks = false) {i : Instr} {pc : Nat} {ls : am_L} {st : List Value} (hd : decode mi.2.1 pc = .ok (i, 1)) (h : am_ret mi i st = some r) :
    am_K p l e R s m args below meth c (MQ below (am_Qc g r H') args s (H'.2.1 - sz0) (H'.2.2 - sl0) (fun q => g.2.2.1 ≤ q)) g mi sz0 sl0 pc ls st H' := by
  intro lsC Hc locs hl hL hI hS z1 z2
  have hq : ∀ t : State, t.heap = Hc → s.WarmedH t.vm → am_Qc g r H' args s (.returned r) t := fun t ht hW => ⟨rfl, by rw [ht]; exact hI.moved hW.alike, hS.F ht⟩
  unfold am_ret at h
  split at h
  · split at h
    · rename_i hty
      cases h
      exact W.iret hx hb (hr.trans hty) hq hS.2.2 hd hlocks
    · rename_i hty
      split at h
      · rename_i hv
        cases h
        exact W.zret hx hb (hr.trans hty) (by rcases hv with rfl | rfl <;> rfl) hq hS.2.2 hd hlocks
      · cases h
    · cases h
  · split at h
    · rename_i hty
      cases h
      exact W.lret hx hb (hr.trans hty) hq hS.2.2 hd hlocks
    · cases h
  · split at h
    · rename_i hty
      cases h
      exact W.fret hx hb (hr.trans hty) hq hS.2.2 hd hlocks
    · cases h
  · split at h
    · rename_i nm hty
      cases h
      exact W.aret hx hb (hr.trans hty) (Or.inl ⟨_, rfl⟩) (Or.inr ⟨_, rfl⟩) hq hS.2.2 hd hlocks
    · cases h
  · split at h
    · rename_i hty
      cases h
      exact W.vret hx hb (hr.trans hty) hq hS.2.2 hd hlocks
    · cases h
  · cases h
theorem am_met {n : Nat} (ih : am_SND l g n) {mj : am_I} (hO : am_MO mj) {As : List Value} {H : am_H} {r : Option Value} {H' : am_H} (hf : (am_flat As).length ≤ mj.2.2.2.1) (h : am_exec g.2.2.2 n mj 0 (am_entry As mj.2.2.2.1) [] H = some (r, H')) : Met l mj.2.2.1 (am_ws mj) (am_rm mj H H') (am_Pc g As H) (am_Qc g r H') (H'.2.1 - H.2.1) (H'.2.2 - H.2.2) (fun q => g.2.2.1 ≤ q) := by
  refine am_ofW (cc := mj.2.1) (maxL := mj.2.2.2.1) (ret := mj.2.2.2.2.1) hO.2.1 rfl ?_
  intro p e s m args below meth c s₁ B hml hv
  obtain ⟨rfl, hI, hKn⟩ := hv
  have hts : ∀ w ∈ am_ws mj, w.before As.toArray s = true := atoms_spec (ws := am_ws mj) B.pre
  have hown : s.vm.findClass (am_cn mj.1) = some m.cls := by
    rw [hO.2.2.2.2]
    exact findClass_of_methodNamed B.named
  rw [lg_entry_eq]
  have hm := am_mono _ _ _ _ _ _ _ _ _ h
  have k := ih mj 0 _ [] H r H' h p e (am_rm mj H H') s m As.toArray below meth c (MQ below (am_Qc g r H') As.toArray s (H'.2.1 - H.2.1) (H'.2.2 - H.2.2) (fun q => g.2.2.1 ≤ q)) H.2.1 H.2.2
    ⟨B.exec, B.bytes, hml, hown, fun w hw => hts w (List.mem_cons_of_mem _ hw), fun hi => by
      have h1 := (name_of_methodNamed B.named B.method).1
      rw [h1]
      unfold am_ini at hi
      exact beq_iff_eq.mp hi, ⟨rfl, rfl⟩, hKn, by rw [hI.1]; exact hI.2.1⟩ ⟨Nat.le_refl _, Nat.le_refl _⟩
    (fun i pc' ls' st' hd hret => am_endK B.exec B.bytes B.returns B.notSynchronized hd hret)
  have k := k _ s.heap [] (am_entry_has hf) (am_entry_len hf) hI va_S.rf (Nat.le_refl _) (Nat.le_refl _)
  rw [Nat.sub_self, Nat.sub_self] at k
  exact k
theorem am_goodIn (mj : am_I) (hO : am_MO mj) : GoodIn wsL_law (am_ws mj) := by
  intro w hw
  rcases List.mem_cons.mp hw with h | h
  · subst h
    exact ⟨hO.1, Or.inl rfl⟩
  · exact ⟨h, am_good w h⟩
theorem am_callS_inv {mi mj mk : am_I} {k n : Nat} {st As rest : List Value} {H : am_H} (h : am_callS mi k n mj st H = some (mk, As, rest)) : mk = mj ∧ (mj.2.2.2.2.2.1 + 1 ≤ mi.2.2.2.2.2.1 ∧ 8 + (mj.2.2.2.1 + 11) + mj.2.2.2.2.2.2 ≤ mi.2.2.2.2.2.2) ∧ am_cat rest ≤ 8 ∧
    (((k = 1 ∨ k = 4) ∧ As.length = n ∧ st = As.reverse ++ rest) ∨ (¬ (k = 1 ∨ k = 4) ∧ ∃ (b : Nat) (Bs : List Value), As = .ref b :: Bs ∧ Bs.length = n ∧ st = Bs.reverse ++ .ref b :: rest ∧ (k = 0 → ∃ ci fs, H.1 b = some (.inr (ci, fs)) ∧ ci = mj.1))) := by
  unfold am_callS at h
  dsimp only at h
  split at h
  · rename_i q
    obtain ⟨q1, q2, q3⟩ := q
    have e : st = ((st.take n).reverse).reverse ++ st.drop n := by rw [List.reverse_reverse, List.take_append_drop]
    split at h
    · rename_i hk
      split at h
      · cases h
        exact ⟨rfl, ⟨q2, q3⟩, by assumption, Or.inl ⟨hk, q1, e⟩⟩
      · cases h
    · rename_i hk
      split at h
      · rename_i b rest' hdrop
        rw [hdrop] at e
        split at h
        · rename_i hc
          split at h
          · rename_i hk0
            split at h
            · rename_i ci fs hb
              split at h
              · rename_i hci
                cases h
                exact ⟨rfl, ⟨q2, q3⟩, hc, Or.inr ⟨hk, b, _, rfl, q1, e, fun _ => ⟨ci, fs, hb, hci⟩⟩⟩
              · cases h
            · cases h
          · rename_i hk0
            cases h
            exact ⟨rfl, ⟨q2, q3⟩, hc, Or.inr ⟨hk, b, _, rfl, q1, e, fun z => absurd z hk0⟩⟩
        · cases h
      · cases h
  · cases h
theorem am_lenI {i : Instr} {n0 : Nat} {cp : Nat} (hi : i = .invokevirtual cp ∨ i = .invokestatic cp ∨ i = .invokespecial cp) (hn : am_lenOk i n0 = true) : n0 = 3 := by
  rcases hi with rfl | rfl | rfl <;> simpa [am_lenOk] using hn
set_option maxHeartbeats 4000000 in
theorem am_callW {n : Nat} (ih : am_SND l g n) {p : Program} {e : Env} {R : Room} {s : State} {m : MethodId} {args : Array Value} {below : List Frame} {meth : Method} {c : Code} {Q : State → Prop} {mi : am_I} {sz0 sl0 : Nat} (C : am_Cx p R s m args meth c g mi sz0) {i : Instr} {n0 pc : Nat} {ls : am_L} {st : List Value} {H : am_H} (hd : decode mi.2.1 pc = .ok (i, n0)) (hn : am_lenOk i n0 = true) {mj : am_I} {As rest : List Value} (hc : am_call mi i st H = some (mj, As, rest)) (hf : (am_flat As).length ≤ mj.2.2.2.1) {r1 : Option Value} {H1 : am_H} (h1 : am_exec g.2.2.2 n mj 0 (am_entry As mj.2.2.2.1) [] H = some (r1, H1)) (hRm : H1.2.1 - sz0 ≤ R.cells ∧ H1.2.2 - sl0 ≤ R.slots)
    (k : am_K p l e R s m args below meth c Q g mi sz0 sl0 (pc + 3) ls (r1.toList ++ rest) H1) : am_K p l e R s m args below meth c Q g mi sz0 sl0 pc ls st H := by
  intro lsC Hc locs hl hL hI hS z1 z2
  obtain ⟨hx, hb, hml, hown, hts, hini, hR, hKn, hB⟩ := C
  have hm := am_mono _ _ _ _ _ _ _ _ _ h1
  have kk : ∀ (Hc1 : Heap) (locs1 : List Loc), am_Inv g s H1 Hc1 → va_S (fun q => g.2.2.1 ≤ q) s.heap Hc1 locs1 → W p l e R s m args below meth c Hc1 locs1 ((H.2.1 - sz0) + (H1.2.1 - H.2.1)) ((H.2.2 - sl0) + (H1.2.2 - H.2.2)) Q (F0 m (pc + 3) lsC (r1.toList ++ rest)) := by
    intro Hc1 locs1 hI1 hS1
    have k := k lsC Hc1 locs1 hl hL hI1 hS1 (by omega) (by omega)
    rw [show (H.2.1 - sz0) + (H1.2.1 - H.2.1) = H1.2.1 - sz0 by omega, show (H.2.2 - sl0) + (H1.2.2 - H.2.2) = H1.2.2 - sl0 by omega]
    exact k
  have hfit : (H.2.1 - sz0) + (H1.2.1 - H.2.1) ≤ R.cells ∧ (H.2.2 - sl0) + (H1.2.2 - H.2.2) ≤ R.slots := ⟨by omega, by omega⟩
  have hsize : lsC.size = c.maxLocals := hl.1.trans (hL.trans hml.symm)
  have hPU : ∀ U : State, U.heap = Hc → s.WarmedH U.vm → am_Pc g As H As.toArray U := fun U hU hW => ⟨rfl, by rw [hU]; exact hI.moved hW.alike, hKn.moved hW⟩
  unfold am_call at hc
  split at hc
  · -- invokevirtual
    rename_i cp
    have e3 := am_lenI (cp := cp) (Or.inl rfl) hn
    subst e3
    split at hc
    · rename_i kd nn mq hlk
      split at hc
      · rename_i hk0
        subst hk0
        obtain ⟨e1, hroom, hcat, hcase⟩ := am_callS_inv hc
        subst e1
        obtain ⟨hO, hw1, -, hw3, hw4, -, -, hn8⟩ := am_callP _ _ (am_lk _ _ _ hlk)
        dsimp only at hO hw1 hw3 hw4 hn8
        rcases hcase with ⟨hz, -⟩ | ⟨-, b, Bs, hAs, hBs, hst, hrecv⟩
        · rcases hz with hz | hz <;> cases hz
        · obtain ⟨ci, fs, hHb, hci⟩ := hrecv rfl
          subst hAs
          subst hst
          obtain ⟨-, r0, hr0, hlen, hob⟩ := (hI.2.2.2 b _ hHb).2
          have hcl := (am_clP _ _ hr0).2.2.2
          have hM := am_met ih hO hf h1
          have hrc := va_recv (q0 := 0) hKn.1 (am_one hr0 hob) hr0 rfl
          rw [hcl, hci, hO.2.2.2.2] at hrc
          exact am_callK (va_runV (As := Bs) (rest := rest) ⟨hx, hb, hml, hown, hts⟩ hM ⟨callB_of nn hts (am_goodIn _ hO) rfl rfl rfl (hts _ hO.2.2.2.1) (hts _ (hw1 (by decide))) ⟨hO.2.2.1.1, hO.2.2.1.2, hn8⟩ ⟨by rw [hR.1]; exact hroom.1, by rw [hR.2]; exact hroom.2⟩, hts _ (hw3 (by decide)), hts _ (hw4 rfl)⟩ ⟨am_blind g _ H, hrc, hPU⟩ rfl hBs (hsize.trans hml) rfl (lv_room hcat) hd hfit) hS kk
      · cases hc
    · cases hc
  · -- invokestatic
    rename_i cp
    have e3 := am_lenI (cp := cp) (Or.inr (Or.inl rfl)) hn
    subst e3
    split at hc
    · rename_i kd nn mq hlk
      split at hc
      · rename_i hk0
        obtain ⟨e1, hroom, hcat, hcase⟩ := am_callS_inv hc
        subst e1
        obtain ⟨hO, hw1, hw2, -, -, hw5, -, hn8⟩ := am_callP _ _ (am_lk _ _ _ hlk)
        dsimp only at hO hw1 hw2 hw5 hn8
        rcases hcase with ⟨-, hAn, hst⟩ | ⟨hz, -⟩
        · subst hst
          have hM := am_met ih hO hf h1
          rcases hk0 with hk | hk
          · subst hk
            exact am_callK (va_runS (As := As) (rest := rest) ⟨hx, hb, hml, hown, hts⟩ hM ⟨callB_of nn hts (am_goodIn _ hO) rfl rfl rfl (hts _ hO.2.2.2.1) (hts _ (hw1 (by decide))) ⟨hO.2.2.1.1, hO.2.2.1.2, hn8⟩ ⟨by rw [hR.1]; exact hroom.1, by rw [hR.2]; exact hroom.2⟩, hts _ (hw5 (Or.inl rfl))⟩ ⟨am_blind g _ H, hPU⟩ rfl hAn (hsize.trans hml) rfl (lv_room hcat) hd hfit) hS kk
          · subst hk
            exact am_callK (va_runSN (As := As) (rest := rest) ⟨hx, hb, hml, hown, hts⟩ hM ⟨va_cnB nn hts (am_goodIn _ hO) rfl rfl rfl (hKn.2.2.2 _ (hw2 (by decide))) (hts _ hO.2.2.2.1) ⟨hO.2.2.1.1, hO.2.2.1.2, hn8⟩ ⟨by rw [hR.1]; exact hroom.1, by rw [hR.2]; exact hroom.2⟩, hts _ (hw5 (Or.inr rfl)), trivial⟩ ⟨am_blind g _ H, hPU⟩ rfl hAn (hsize.trans hml) rfl (lv_room hcat) hd hfit) hS kk
        · exact absurd hk0 hz
      · cases hc
    · cases hc
  · -- invokespecial
    rename_i cp
    have e3 := am_lenI (cp := cp) (Or.inr (Or.inr rfl)) hn
    subst e3
    split at hc
    · rename_i kd nn mq hlk
      split at hc
      · rename_i hk0
        obtain ⟨e1, hroom, hcat, hcase⟩ := am_callS_inv hc
        subst e1
        obtain ⟨hO, hw1, hw2, hw3, -, -, hw6, hn8⟩ := am_callP _ _ (am_lk _ _ _ hlk)
        dsimp only at hO hw1 hw2 hw3 hw6 hn8
        rcases hcase with ⟨hz, -⟩ | ⟨-, b, Bs, hAs, hBs, hst, -⟩
        · rcases hz with hz | hz <;> rcases hk0 with hk | hk <;> omega
        · subst hAs
          subst hst
          have hM := am_met ih hO hf h1
          obtain ⟨hname, hret⟩ := hw6 hk0
          have hG := am_goodIn _ hO
          have hW8 : am_ws mj = Jvm.Cond.code mj.2.2.1 mj.2.1 mj.2.2.2.1 none :: wsL_law := by unfold am_ws; rw [hret]
          rcases hk0 with hk | hk
          · subst hk
            exact am_callK (va_runI (As := Bs) (rest := rest) ⟨hx, hb, hml, hown, hts⟩ hM ⟨callB_of nn hts hG hW8 rfl rfl (hts _ hO.2.2.2.1) (hts _ (hw1 (by decide))) ⟨hO.2.2.1.1, hO.2.2.1.2, hn8⟩ ⟨by rw [hR.1]; exact hroom.1, by rw [hR.2]; exact hroom.2⟩, hname, hts _ (hw3 (by decide))⟩ ⟨am_blind g _ H, hPU⟩ rfl hBs (hsize.trans hml) rfl (lv_room hcat) hd hfit) hS kk
          · subst hk
            exact am_callK (va_runIN (As := Bs) (rest := rest) ⟨hx, hb, hml, hown, hts⟩ hM ⟨va_cnB nn hts hG hW8 rfl rfl (hKn.2.2.2 _ (hw2 (by decide))) (hts _ hO.2.2.2.1) ⟨hO.2.2.1.1, hO.2.2.1.2, hn8⟩ ⟨by rw [hR.1]; exact hroom.1, by rw [hR.2]; exact hroom.2⟩, hname, hts _ (hw3 (by decide))⟩ ⟨am_blind g _ H, hPU⟩ rfl hBs (hsize.trans hml) rfl (lv_room hcat) hd hfit) hS kk
      · cases hc
    · cases hc
  · cases hc
theorem am_snd (l : Launch) (g : am_g) : ∀ n : Nat, am_SND l g n
  | 0 => by
    intro mi pc ls st H r H' h
    simp [am_exec] at h
  | n + 1 => by
    intro mi pc ls st H r H' h p e R s m args below meth c Q sz0 sl0 C hRm kr
    have ih := am_snd l g n
    unfold am_exec at h
    split at h
    · cases h
    · rename_i i n0 hd
      split at h
      · rename_i hn
        split at h
        · rename_i r0 hret
          cases h
          have e1 := am_ret_len hret hn
          subst e1
          exact kr i pc ls st hd hret
        · split at h
          · rename_i mj As rest hc
            split at h
            · rename_i hf
              split at h
              · rename_i r1 H1 h1
                have hm := am_mono _ _ _ _ _ _ _ _ _ h
                exact am_callW ih C hd hn hc hf h1 ⟨by omega, by omega⟩ (ih mi _ _ _ _ _ _ h p e R s m args below meth c Q sz0 sl0 C hRm kr)
              · cases h
            · cases h
          · split at h
            · rename_i pc' ls' st' H1 hs
              split at h
              · have hm := am_mono _ _ _ _ _ _ _ _ _ h
                exact am_step_snd C hd hn hs ⟨by dsimp only; omega, by dsimp only; omega⟩ (ih mi _ _ _ _ _ _ h p e R s m args below meth c Q sz0 sl0 C hRm kr)
              · cases h
            · cases h
      · cases h
end AMZ
end
section
theorem dX0_init_0 : decode cX0_init 0 = .ok (.aload_n 0, 1) := by decide +kernel
theorem dX0_init_1 : decode cX0_init 1 = .ok (.invokespecial 3, 3) := by decide +kernel
theorem dX0_init_4 : decode cX0_init 4 = .ok (.aload_n 0, 1) := by decide +kernel
theorem dX0_init_5 : decode cX0_init 5 = .ok (.bipush 24, 2) := by decide +kernel
theorem dX0_init_7 : decode cX0_init 7 = .ok (.newarray .int, 2) := by decide +kernel
theorem dX0_init_9 : decode cX0_init 9 = .ok (.putfield 9, 3) := by decide +kernel
theorem dX0_init_12 : decode cX0_init 12 = .ok (.aload_n 0, 1) := by decide +kernel
theorem dX0_init_13 : decode cX0_init 13 = .ok (.invokevirtual 15, 3) := by decide +kernel
theorem dX0_init_16 : decode cX0_init 16 = .ok (.return_, 1) := by decide +kernel
theorem dX0_clear_0 : decode cX0_clear 0 = .ok (.iconst 0, 1) := by decide +kernel
theorem dX0_clear_1 : decode cX0_clear 1 = .ok (.istore_n 1, 1) := by decide +kernel
theorem dX0_clear_2 : decode cX0_clear 2 = .ok (.iload_n 1, 1) := by decide +kernel
theorem dX0_clear_3 : decode cX0_clear 3 = .ok (.bipush 24, 2) := by decide +kernel
theorem dX0_clear_5 : decode cX0_clear 5 = .ok (.if_icmp .ge 17, 3) := by decide +kernel
theorem dX0_clear_8 : decode cX0_clear 8 = .ok (.aload_n 0, 1) := by decide +kernel
theorem dX0_clear_9 : decode cX0_clear 9 = .ok (.getfield 9, 3) := by decide +kernel
theorem dX0_clear_12 : decode cX0_clear 12 = .ok (.iload_n 1, 1) := by decide +kernel
theorem dX0_clear_13 : decode cX0_clear 13 = .ok (.ldc 18, 2) := by decide +kernel
theorem dX0_clear_15 : decode cX0_clear 15 = .ok (.iastore, 1) := by decide +kernel
theorem dX0_clear_16 : decode cX0_clear 16 = .ok (.iinc 1 1, 3) := by decide +kernel
theorem dX0_clear_19 : decode cX0_clear 19 = .ok (.goto (-17), 3) := by decide +kernel
theorem dX0_clear_22 : decode cX0_clear 22 = .ok (.aload_n 0, 1) := by decide +kernel
theorem dX0_clear_23 : decode cX0_clear 23 = .ok (.iconst 0, 1) := by decide +kernel
theorem dX0_clear_24 : decode cX0_clear 24 = .ok (.putfield 19, 3) := by decide +kernel
theorem dX0_clear_27 : decode cX0_clear 27 = .ok (.aload_n 0, 1) := by decide +kernel
theorem dX0_clear_28 : decode cX0_clear 28 = .ok (.iconst 0, 1) := by decide +kernel
theorem dX0_clear_29 : decode cX0_clear 29 = .ok (.putfield 23, 3) := by decide +kernel
theorem dX0_clear_32 : decode cX0_clear 32 = .ok (.return_, 1) := by decide +kernel
theorem dX0_shows_0 : decode cX0_shows 0 = .ok (.iload_n 1, 1) := by decide +kernel
theorem dX0_shows_1 : decode cX0_shows 1 = .ok (.invokestatic 26, 3) := by decide +kernel
theorem dX0_shows_4 : decode cX0_shows 4 = .ok (.ifCond .eq 12, 3) := by decide +kernel
theorem dX0_shows_7 : decode cX0_shows 7 = .ok (.aload_n 0, 1) := by decide +kernel
theorem dX0_shows_8 : decode cX0_shows 8 = .ok (.getfield 9, 3) := by decide +kernel
theorem dX0_shows_11 : decode cX0_shows 11 = .ok (.iload_n 1, 1) := by decide +kernel
theorem dX0_shows_12 : decode cX0_shows 12 = .ok (.iaload, 1) := by decide +kernel
theorem dX0_shows_13 : decode cX0_shows 13 = .ok (.goto 5, 3) := by decide +kernel
theorem dX0_shows_16 : decode cX0_shows 16 = .ok (.ldc 18, 2) := by decide +kernel
theorem dX0_shows_18 : decode cX0_shows 18 = .ok (.ireturn, 1) := by decide +kernel
theorem dX0_show_0 : decode cX0_show 0 = .ok (.iload_n 1, 1) := by decide +kernel
theorem dX0_show_1 : decode cX0_show 1 = .ok (.invokestatic 26, 3) := by decide +kernel
theorem dX0_show_4 : decode cX0_show 4 = .ok (.ifCond .eq 10, 3) := by decide +kernel
theorem dX0_show_7 : decode cX0_show 7 = .ok (.aload_n 0, 1) := by decide +kernel
theorem dX0_show_8 : decode cX0_show 8 = .ok (.getfield 9, 3) := by decide +kernel
theorem dX0_show_11 : decode cX0_show 11 = .ok (.iload_n 1, 1) := by decide +kernel
theorem dX0_show_12 : decode cX0_show 12 = .ok (.iload_n 2, 1) := by decide +kernel
theorem dX0_show_13 : decode cX0_show 13 = .ok (.iastore, 1) := by decide +kernel
theorem dX0_show_14 : decode cX0_show 14 = .ok (.return_, 1) := by decide +kernel
theorem dX0_readFrom_0 : decode cX0_readFrom 0 = .ok (.aload_n 0, 1) := by decide +kernel
theorem dX0_readFrom_1 : decode cX0_readFrom 1 = .ok (.aload_n 1, 1) := by decide +kernel
theorem dX0_readFrom_2 : decode cX0_readFrom 2 = .ok (.invokevirtual 30, 3) := by decide +kernel
theorem dX0_readFrom_5 : decode cX0_readFrom 5 = .ok (.aload_n 1, 1) := by decide +kernel
theorem dX0_readFrom_6 : decode cX0_readFrom 6 = .ok (.getfield 19, 3) := by decide +kernel
theorem dX0_readFrom_9 : decode cX0_readFrom 9 = .ok (.iconst 2, 1) := by decide +kernel
theorem dX0_readFrom_10 : decode cX0_readFrom 10 = .ok (.if_icmp .ne 26, 3) := by decide +kernel
theorem dX0_readFrom_13 : decode cX0_readFrom 13 = .ok (.aload_n 1, 1) := by decide +kernel
theorem dX0_readFrom_14 : decode cX0_readFrom 14 = .ok (.getfield 9, 3) := by decide +kernel
theorem dX0_readFrom_17 : decode cX0_readFrom 17 = .ok (.iconst 1, 1) := by decide +kernel
theorem dX0_readFrom_18 : decode cX0_readFrom 18 = .ok (.aload_n 0, 1) := by decide +kernel
theorem dX0_readFrom_19 : decode cX0_readFrom 19 = .ok (.getfield 9, 3) := by decide +kernel
theorem dX0_readFrom_22 : decode cX0_readFrom 22 = .ok (.iconst 0, 1) := by decide +kernel
theorem dX0_readFrom_23 : decode cX0_readFrom 23 = .ok (.bipush 23, 2) := by decide +kernel
theorem dX0_readFrom_25 : decode cX0_readFrom 25 = .ok (.invokestatic 34, 3) := by decide +kernel
theorem dX0_readFrom_28 : decode cX0_readFrom 28 = .ok (.aload_n 0, 1) := by decide +kernel
theorem dX0_readFrom_29 : decode cX0_readFrom 29 = .ok (.bipush 23, 2) := by decide +kernel
theorem dX0_readFrom_31 : decode cX0_readFrom 31 = .ok (.ldc 18, 2) := by decide +kernel
theorem dX0_readFrom_33 : decode cX0_readFrom 33 = .ok (.invokevirtual 40, 3) := by decide +kernel
theorem dX0_readFrom_36 : decode cX0_readFrom 36 = .ok (.aload_n 1, 1) := by decide +kernel
theorem dX0_readFrom_37 : decode cX0_readFrom 37 = .ok (.getfield 19, 3) := by decide +kernel
theorem dX0_readFrom_40 : decode cX0_readFrom 40 = .ok (.iconst 3, 1) := by decide +kernel
theorem dX0_readFrom_41 : decode cX0_readFrom 41 = .ok (.if_icmp .ne 13, 3) := by decide +kernel
theorem dX0_readFrom_44 : decode cX0_readFrom 44 = .ok (.aload_n 0, 1) := by decide +kernel
theorem dX0_readFrom_45 : decode cX0_readFrom 45 = .ok (.aload_n 1, 1) := by decide +kernel
theorem dX0_readFrom_46 : decode cX0_readFrom 46 = .ok (.getfield 23, 3) := by decide +kernel
theorem dX0_readFrom_49 : decode cX0_readFrom 49 = .ok (.ldc 18, 2) := by decide +kernel
theorem dX0_readFrom_51 : decode cX0_readFrom 51 = .ok (.invokevirtual 40, 3) := by decide +kernel
theorem dX0_readFrom_54 : decode cX0_readFrom 54 = .ok (.return_, 1) := by decide +kernel
theorem dX0_copyFrom_0 : decode cX0_copyFrom 0 = .ok (.aload_n 1, 1) := by decide +kernel
theorem dX0_copyFrom_1 : decode cX0_copyFrom 1 = .ok (.getfield 9, 3) := by decide +kernel
theorem dX0_copyFrom_4 : decode cX0_copyFrom 4 = .ok (.iconst 0, 1) := by decide +kernel
theorem dX0_copyFrom_5 : decode cX0_copyFrom 5 = .ok (.aload_n 0, 1) := by decide +kernel
theorem dX0_copyFrom_6 : decode cX0_copyFrom 6 = .ok (.getfield 9, 3) := by decide +kernel
theorem dX0_copyFrom_9 : decode cX0_copyFrom 9 = .ok (.iconst 0, 1) := by decide +kernel
theorem dX0_copyFrom_10 : decode cX0_copyFrom 10 = .ok (.bipush 24, 2) := by decide +kernel
theorem dX0_copyFrom_12 : decode cX0_copyFrom 12 = .ok (.invokestatic 34, 3) := by decide +kernel
theorem dX0_copyFrom_15 : decode cX0_copyFrom 15 = .ok (.aload_n 0, 1) := by decide +kernel
theorem dX0_copyFrom_16 : decode cX0_copyFrom 16 = .ok (.aload_n 1, 1) := by decide +kernel
theorem dX0_copyFrom_17 : decode cX0_copyFrom 17 = .ok (.getfield 19, 3) := by decide +kernel
theorem dX0_copyFrom_20 : decode cX0_copyFrom 20 = .ok (.putfield 19, 3) := by decide +kernel
theorem dX0_copyFrom_23 : decode cX0_copyFrom 23 = .ok (.aload_n 0, 1) := by decide +kernel
theorem dX0_copyFrom_24 : decode cX0_copyFrom 24 = .ok (.aload_n 1, 1) := by decide +kernel
theorem dX0_copyFrom_25 : decode cX0_copyFrom 25 = .ok (.getfield 23, 3) := by decide +kernel
theorem dX0_copyFrom_28 : decode cX0_copyFrom 28 = .ok (.putfield 23, 3) := by decide +kernel
theorem dX0_copyFrom_31 : decode cX0_copyFrom 31 = .ok (.return_, 1) := by decide +kernel
theorem dX1_init_0 : decode cX1_init 0 = .ok (.aload_n 0, 1) := by decide +kernel
theorem dX1_init_1 : decode cX1_init 1 = .ok (.invokespecial 3, 3) := by decide +kernel
theorem dX1_init_4 : decode cX1_init 4 = .ok (.aload_n 0, 1) := by decide +kernel
theorem dX1_init_5 : decode cX1_init 5 = .ok (.bipush 40, 2) := by decide +kernel
theorem dX1_init_7 : decode cX1_init 7 = .ok (.anewarray 9, 3) := by decide +kernel
theorem dX1_init_10 : decode cX1_init 10 = .ok (.putfield 11, 3) := by decide +kernel
theorem dX1_init_13 : decode cX1_init 13 = .ok (.aload_n 0, 1) := by decide +kernel
theorem dX1_init_14 : decode cX1_init 14 = .ok (.new 9, 3) := by decide +kernel
theorem dX1_init_17 : decode cX1_init 17 = .ok (.dup, 1) := by decide +kernel
theorem dX1_init_18 : decode cX1_init 18 = .ok (.invokespecial 17, 3) := by decide +kernel
theorem dX1_init_21 : decode cX1_init 21 = .ok (.putfield 18, 3) := by decide +kernel
theorem dX1_init_24 : decode cX1_init 24 = .ok (.iconst 0, 1) := by decide +kernel
theorem dX1_init_25 : decode cX1_init 25 = .ok (.istore_n 1, 1) := by decide +kernel
theorem dX1_init_26 : decode cX1_init 26 = .ok (.iload_n 1, 1) := by decide +kernel
theorem dX1_init_27 : decode cX1_init 27 = .ok (.bipush 40, 2) := by decide +kernel
theorem dX1_init_29 : decode cX1_init 29 = .ok (.if_icmp .ge 22, 3) := by decide +kernel
theorem dX1_init_32 : decode cX1_init 32 = .ok (.aload_n 0, 1) := by decide +kernel
theorem dX1_init_33 : decode cX1_init 33 = .ok (.getfield 11, 3) := by decide +kernel
theorem dX1_init_36 : decode cX1_init 36 = .ok (.iload_n 1, 1) := by decide +kernel
theorem dX1_init_37 : decode cX1_init 37 = .ok (.new 9, 3) := by decide +kernel
theorem dX1_init_40 : decode cX1_init 40 = .ok (.dup, 1) := by decide +kernel
theorem dX1_init_41 : decode cX1_init 41 = .ok (.invokespecial 17, 3) := by decide +kernel
theorem dX1_init_44 : decode cX1_init 44 = .ok (.aastore, 1) := by decide +kernel
theorem dX1_init_45 : decode cX1_init 45 = .ok (.iinc 1 1, 3) := by decide +kernel
theorem dX1_init_48 : decode cX1_init 48 = .ok (.goto (-22), 3) := by decide +kernel
theorem dX1_init_51 : decode cX1_init 51 = .ok (.return_, 1) := by decide +kernel
theorem dX1_size_0 : decode cX1_size 0 = .ok (.aload_n 0, 1) := by decide +kernel
theorem dX1_size_1 : decode cX1_size 1 = .ok (.getfield 22, 3) := by decide +kernel
theorem dX1_size_4 : decode cX1_size 4 = .ok (.ireturn, 1) := by decide +kernel
theorem dX1_has_0 : decode cX1_has 0 = .ok (.iload_n 1, 1) := by decide +kernel
theorem dX1_has_1 : decode cX1_has 1 = .ok (.ifCond .lt 15, 3) := by decide +kernel
theorem dX1_has_4 : decode cX1_has 4 = .ok (.iload_n 1, 1) := by decide +kernel
theorem dX1_has_5 : decode cX1_has 5 = .ok (.aload_n 0, 1) := by decide +kernel
theorem dX1_has_6 : decode cX1_has 6 = .ok (.getfield 22, 3) := by decide +kernel
theorem dX1_has_9 : decode cX1_has 9 = .ok (.if_icmp .ge 7, 3) := by decide +kernel
theorem dX1_has_12 : decode cX1_has 12 = .ok (.iconst 1, 1) := by decide +kernel
theorem dX1_has_13 : decode cX1_has 13 = .ok (.goto 4, 3) := by decide +kernel
theorem dX1_has_16 : decode cX1_has 16 = .ok (.iconst 0, 1) := by decide +kernel
theorem dX1_has_17 : decode cX1_has 17 = .ok (.ireturn, 1) := by decide +kernel
theorem dX1_at_0 : decode cX1_at 0 = .ok (.iload_n 1, 1) := by decide +kernel
theorem dX1_at_1 : decode cX1_at 1 = .ok (.ifCond .lt 18, 3) := by decide +kernel
theorem dX1_at_4 : decode cX1_at 4 = .ok (.iload_n 1, 1) := by decide +kernel
theorem dX1_at_5 : decode cX1_at 5 = .ok (.bipush 40, 2) := by decide +kernel
theorem dX1_at_7 : decode cX1_at 7 = .ok (.if_icmp .ge 12, 3) := by decide +kernel
theorem dX1_at_10 : decode cX1_at 10 = .ok (.aload_n 0, 1) := by decide +kernel
theorem dX1_at_11 : decode cX1_at 11 = .ok (.getfield 11, 3) := by decide +kernel
theorem dX1_at_14 : decode cX1_at 14 = .ok (.iload_n 1, 1) := by decide +kernel
theorem dX1_at_15 : decode cX1_at 15 = .ok (.aaload, 1) := by decide +kernel
theorem dX1_at_16 : decode cX1_at 16 = .ok (.goto 4, 3) := by decide +kernel
theorem dX1_at_19 : decode cX1_at 19 = .ok (.aconst_null, 1) := by decide +kernel
theorem dX1_at_20 : decode cX1_at 20 = .ok (.astore_n 2, 1) := by decide +kernel
theorem dX1_at_21 : decode cX1_at 21 = .ok (.aload_n 2, 1) := by decide +kernel
theorem dX1_at_22 : decode cX1_at 22 = .ok (.ifnonnull 10, 3) := by decide +kernel
theorem dX1_at_25 : decode cX1_at 25 = .ok (.aload_n 0, 1) := by decide +kernel
theorem dX1_at_26 : decode cX1_at 26 = .ok (.getfield 18, 3) := by decide +kernel
theorem dX1_at_29 : decode cX1_at 29 = .ok (.goto 4, 3) := by decide +kernel
theorem dX1_at_32 : decode cX1_at 32 = .ok (.aload_n 2, 1) := by decide +kernel
theorem dX1_at_33 : decode cX1_at 33 = .ok (.areturn, 1) := by decide +kernel
theorem dX1_put_0 : decode cX1_put 0 = .ok (.iload_n 1, 1) := by decide +kernel
theorem dX1_put_1 : decode cX1_put 1 = .ok (.ifCond .lt 16, 3) := by decide +kernel
theorem dX1_put_4 : decode cX1_put 4 = .ok (.iload_n 1, 1) := by decide +kernel
theorem dX1_put_5 : decode cX1_put 5 = .ok (.bipush 40, 2) := by decide +kernel
theorem dX1_put_7 : decode cX1_put 7 = .ok (.if_icmp .ge 10, 3) := by decide +kernel
theorem dX1_put_10 : decode cX1_put 10 = .ok (.aload_n 0, 1) := by decide +kernel
theorem dX1_put_11 : decode cX1_put 11 = .ok (.getfield 11, 3) := by decide +kernel
theorem dX1_put_14 : decode cX1_put 14 = .ok (.iload_n 1, 1) := by decide +kernel
theorem dX1_put_15 : decode cX1_put 15 = .ok (.aload_n 2, 1) := by decide +kernel
theorem dX1_put_16 : decode cX1_put 16 = .ok (.aastore, 1) := by decide +kernel
theorem dX1_put_17 : decode cX1_put 17 = .ok (.return_, 1) := by decide +kernel
theorem dX1_insertBlank_0 : decode cX1_insertBlank 0 = .ok (.aload_n 0, 1) := by decide +kernel
theorem dX1_insertBlank_1 : decode cX1_insertBlank 1 = .ok (.getfield 22, 3) := by decide +kernel
theorem dX1_insertBlank_4 : decode cX1_insertBlank 4 = .ok (.bipush 40, 2) := by decide +kernel
theorem dX1_insertBlank_6 : decode cX1_insertBlank 6 = .ok (.if_icmp .lt 8, 3) := by decide +kernel
theorem dX1_insertBlank_9 : decode cX1_insertBlank 9 = .ok (.aload_n 0, 1) := by decide +kernel
theorem dX1_insertBlank_10 : decode cX1_insertBlank 10 = .ok (.getfield 18, 3) := by decide +kernel
theorem dX1_insertBlank_13 : decode cX1_insertBlank 13 = .ok (.areturn, 1) := by decide +kernel
theorem dX1_insertBlank_14 : decode cX1_insertBlank 14 = .ok (.aload_n 0, 1) := by decide +kernel
theorem dX1_insertBlank_15 : decode cX1_insertBlank 15 = .ok (.aload_n 0, 1) := by decide +kernel
theorem dX1_insertBlank_16 : decode cX1_insertBlank 16 = .ok (.getfield 22, 3) := by decide +kernel
theorem dX1_insertBlank_19 : decode cX1_insertBlank 19 = .ok (.invokevirtual 26, 3) := by decide +kernel
theorem dX1_insertBlank_22 : decode cX1_insertBlank 22 = .ok (.astore_n 2, 1) := by decide +kernel
theorem dX1_insertBlank_23 : decode cX1_insertBlank 23 = .ok (.aload_n 2, 1) := by decide +kernel
theorem dX1_insertBlank_24 : decode cX1_insertBlank 24 = .ok (.invokevirtual 30, 3) := by decide +kernel
theorem dX1_insertBlank_27 : decode cX1_insertBlank 27 = .ok (.aload_n 0, 1) := by decide +kernel
theorem dX1_insertBlank_28 : decode cX1_insertBlank 28 = .ok (.aload_n 0, 1) := by decide +kernel
theorem dX1_insertBlank_29 : decode cX1_insertBlank 29 = .ok (.getfield 22, 3) := by decide +kernel
theorem dX1_insertBlank_32 : decode cX1_insertBlank 32 = .ok (.iload_n 1, 1) := by decide +kernel
theorem dX1_insertBlank_33 : decode cX1_insertBlank 33 = .ok (.invokevirtual 33, 3) := by decide +kernel
theorem dX1_insertBlank_36 : decode cX1_insertBlank 36 = .ok (.aload_n 0, 1) := by decide +kernel
theorem dX1_insertBlank_37 : decode cX1_insertBlank 37 = .ok (.dup, 1) := by decide +kernel
theorem dX1_insertBlank_38 : decode cX1_insertBlank 38 = .ok (.getfield 22, 3) := by decide +kernel
theorem dX1_insertBlank_41 : decode cX1_insertBlank 41 = .ok (.iconst 1, 1) := by decide +kernel
theorem dX1_insertBlank_42 : decode cX1_insertBlank 42 = .ok (.iadd, 1) := by decide +kernel
theorem dX1_insertBlank_43 : decode cX1_insertBlank 43 = .ok (.putfield 22, 3) := by decide +kernel
theorem dX1_insertBlank_46 : decode cX1_insertBlank 46 = .ok (.aload_n 2, 1) := by decide +kernel
theorem dX1_insertBlank_47 : decode cX1_insertBlank 47 = .ok (.areturn, 1) := by decide +kernel
theorem dX1_remove_0 : decode cX1_remove 0 = .ok (.aload_n 0, 1) := by decide +kernel
theorem dX1_remove_1 : decode cX1_remove 1 = .ok (.iload_n 1, 1) := by decide +kernel
theorem dX1_remove_2 : decode cX1_remove 2 = .ok (.invokevirtual 37, 3) := by decide +kernel
theorem dX1_remove_5 : decode cX1_remove 5 = .ok (.ifCond .eq 24, 3) := by decide +kernel
theorem dX1_remove_8 : decode cX1_remove 8 = .ok (.aload_n 0, 1) := by decide +kernel
theorem dX1_remove_9 : decode cX1_remove 9 = .ok (.iload_n 1, 1) := by decide +kernel
theorem dX1_remove_10 : decode cX1_remove 10 = .ok (.aload_n 0, 1) := by decide +kernel
theorem dX1_remove_11 : decode cX1_remove 11 = .ok (.getfield 22, 3) := by decide +kernel
theorem dX1_remove_14 : decode cX1_remove 14 = .ok (.iconst 1, 1) := by decide +kernel
theorem dX1_remove_15 : decode cX1_remove 15 = .ok (.isub, 1) := by decide +kernel
theorem dX1_remove_16 : decode cX1_remove 16 = .ok (.invokevirtual 33, 3) := by decide +kernel
theorem dX1_remove_19 : decode cX1_remove 19 = .ok (.aload_n 0, 1) := by decide +kernel
theorem dX1_remove_20 : decode cX1_remove 20 = .ok (.dup, 1) := by decide +kernel
theorem dX1_remove_21 : decode cX1_remove 21 = .ok (.getfield 22, 3) := by decide +kernel
theorem dX1_remove_24 : decode cX1_remove 24 = .ok (.iconst 1, 1) := by decide +kernel
theorem dX1_remove_25 : decode cX1_remove 25 = .ok (.isub, 1) := by decide +kernel
theorem dX1_remove_26 : decode cX1_remove 26 = .ok (.putfield 22, 3) := by decide +kernel
theorem dX1_remove_29 : decode cX1_remove 29 = .ok (.return_, 1) := by decide +kernel
theorem dX1_carry_0 : decode cX1_carry 0 = .ok (.aload_n 0, 1) := by decide +kernel
theorem dX1_carry_1 : decode cX1_carry 1 = .ok (.iload_n 1, 1) := by decide +kernel
theorem dX1_carry_2 : decode cX1_carry 2 = .ok (.invokevirtual 26, 3) := by decide +kernel
theorem dX1_carry_5 : decode cX1_carry 5 = .ok (.astore_n 3, 1) := by decide +kernel
theorem dX1_carry_6 : decode cX1_carry 6 = .ok (.iload_n 1, 1) := by decide +kernel
theorem dX1_carry_7 : decode cX1_carry 7 = .ok (.istore 4, 2) := by decide +kernel
theorem dX1_carry_9 : decode cX1_carry 9 = .ok (.iload 4, 2) := by decide +kernel
theorem dX1_carry_11 : decode cX1_carry 11 = .ok (.iload_n 2, 1) := by decide +kernel
theorem dX1_carry_12 : decode cX1_carry 12 = .ok (.if_icmp .ge 23, 3) := by decide +kernel
theorem dX1_carry_15 : decode cX1_carry 15 = .ok (.aload_n 0, 1) := by decide +kernel
theorem dX1_carry_16 : decode cX1_carry 16 = .ok (.iload 4, 2) := by decide +kernel
theorem dX1_carry_18 : decode cX1_carry 18 = .ok (.aload_n 0, 1) := by decide +kernel
theorem dX1_carry_19 : decode cX1_carry 19 = .ok (.iload 4, 2) := by decide +kernel
theorem dX1_carry_21 : decode cX1_carry 21 = .ok (.iconst 1, 1) := by decide +kernel
theorem dX1_carry_22 : decode cX1_carry 22 = .ok (.iadd, 1) := by decide +kernel
theorem dX1_carry_23 : decode cX1_carry 23 = .ok (.invokevirtual 26, 3) := by decide +kernel
theorem dX1_carry_26 : decode cX1_carry 26 = .ok (.invokevirtual 41, 3) := by decide +kernel
theorem dX1_carry_29 : decode cX1_carry 29 = .ok (.iinc 4 1, 3) := by decide +kernel
theorem dX1_carry_32 : decode cX1_carry 32 = .ok (.goto (-23), 3) := by decide +kernel
theorem dX1_carry_35 : decode cX1_carry 35 = .ok (.iload_n 1, 1) := by decide +kernel
theorem dX1_carry_36 : decode cX1_carry 36 = .ok (.istore 4, 2) := by decide +kernel
theorem dX1_carry_38 : decode cX1_carry 38 = .ok (.iload 4, 2) := by decide +kernel
theorem dX1_carry_40 : decode cX1_carry 40 = .ok (.iload_n 2, 1) := by decide +kernel
theorem dX1_carry_41 : decode cX1_carry 41 = .ok (.if_icmp .le 23, 3) := by decide +kernel
theorem dX1_carry_44 : decode cX1_carry 44 = .ok (.aload_n 0, 1) := by decide +kernel
theorem dX1_carry_45 : decode cX1_carry 45 = .ok (.iload 4, 2) := by decide +kernel
theorem dX1_carry_47 : decode cX1_carry 47 = .ok (.aload_n 0, 1) := by decide +kernel
theorem dX1_carry_48 : decode cX1_carry 48 = .ok (.iload 4, 2) := by decide +kernel
theorem dX1_carry_50 : decode cX1_carry 50 = .ok (.iconst 1, 1) := by decide +kernel
theorem dX1_carry_51 : decode cX1_carry 51 = .ok (.isub, 1) := by decide +kernel
theorem dX1_carry_52 : decode cX1_carry 52 = .ok (.invokevirtual 26, 3) := by decide +kernel
theorem dX1_carry_55 : decode cX1_carry 55 = .ok (.invokevirtual 41, 3) := by decide +kernel
theorem dX1_carry_58 : decode cX1_carry 58 = .ok (.iinc 4 (-1), 3) := by decide +kernel
theorem dX1_carry_61 : decode cX1_carry 61 = .ok (.goto (-23), 3) := by decide +kernel
theorem dX1_carry_64 : decode cX1_carry 64 = .ok (.aload_n 0, 1) := by decide +kernel
theorem dX1_carry_65 : decode cX1_carry 65 = .ok (.iload_n 2, 1) := by decide +kernel
theorem dX1_carry_66 : decode cX1_carry 66 = .ok (.aload_n 3, 1) := by decide +kernel
theorem dX1_carry_67 : decode cX1_carry 67 = .ok (.invokevirtual 41, 3) := by decide +kernel
theorem dX1_carry_70 : decode cX1_carry 70 = .ok (.return_, 1) := by decide +kernel
theorem dX1_copyFrom_0 : decode cX1_copyFrom 0 = .ok (.aload_n 0, 1) := by decide +kernel
theorem dX1_copyFrom_1 : decode cX1_copyFrom 1 = .ok (.aload_n 1, 1) := by decide +kernel
theorem dX1_copyFrom_2 : decode cX1_copyFrom 2 = .ok (.getfield 22, 3) := by decide +kernel
theorem dX1_copyFrom_5 : decode cX1_copyFrom 5 = .ok (.putfield 22, 3) := by decide +kernel
theorem dX1_copyFrom_8 : decode cX1_copyFrom 8 = .ok (.iconst 0, 1) := by decide +kernel
theorem dX1_copyFrom_9 : decode cX1_copyFrom 9 = .ok (.istore_n 2, 1) := by decide +kernel
theorem dX1_copyFrom_10 : decode cX1_copyFrom 10 = .ok (.iload_n 2, 1) := by decide +kernel
theorem dX1_copyFrom_11 : decode cX1_copyFrom 11 = .ok (.aload_n 0, 1) := by decide +kernel
theorem dX1_copyFrom_12 : decode cX1_copyFrom 12 = .ok (.getfield 22, 3) := by decide +kernel
theorem dX1_copyFrom_15 : decode cX1_copyFrom 15 = .ok (.if_icmp .ge 22, 3) := by decide +kernel
theorem dX1_copyFrom_18 : decode cX1_copyFrom 18 = .ok (.aload_n 0, 1) := by decide +kernel
theorem dX1_copyFrom_19 : decode cX1_copyFrom 19 = .ok (.iload_n 2, 1) := by decide +kernel
theorem dX1_copyFrom_20 : decode cX1_copyFrom 20 = .ok (.invokevirtual 26, 3) := by decide +kernel
theorem dX1_copyFrom_23 : decode cX1_copyFrom 23 = .ok (.aload_n 1, 1) := by decide +kernel
theorem dX1_copyFrom_24 : decode cX1_copyFrom 24 = .ok (.iload_n 2, 1) := by decide +kernel
theorem dX1_copyFrom_25 : decode cX1_copyFrom 25 = .ok (.invokevirtual 26, 3) := by decide +kernel
theorem dX1_copyFrom_28 : decode cX1_copyFrom 28 = .ok (.invokevirtual 45, 3) := by decide +kernel
theorem dX1_copyFrom_31 : decode cX1_copyFrom 31 = .ok (.iinc 2 1, 3) := by decide +kernel
theorem dX1_copyFrom_34 : decode cX1_copyFrom 34 = .ok (.goto (-24), 3) := by decide +kernel
theorem dX1_copyFrom_37 : decode cX1_copyFrom 37 = .ok (.return_, 1) := by decide +kernel
theorem dX2_init_0 : decode cX2_init 0 = .ok (.aload_n 0, 1) := by decide +kernel
theorem dX2_init_1 : decode cX2_init 1 = .ok (.invokespecial 3, 3) := by decide +kernel
theorem dX2_init_4 : decode cX2_init 4 = .ok (.aload_n 0, 1) := by decide +kernel
theorem dX2_init_5 : decode cX2_init 5 = .ok (.bipush 8, 2) := by decide +kernel
theorem dX2_init_7 : decode cX2_init 7 = .ok (.anewarray 9, 3) := by decide +kernel
theorem dX2_init_10 : decode cX2_init 10 = .ok (.putfield 11, 3) := by decide +kernel
theorem dX2_init_13 : decode cX2_init 13 = .ok (.return_, 1) := by decide +kernel
theorem dX2_size_0 : decode cX2_size 0 = .ok (.aload_n 0, 1) := by decide +kernel
theorem dX2_size_1 : decode cX2_size 1 = .ok (.getfield 17, 3) := by decide +kernel
theorem dX2_size_4 : decode cX2_size 4 = .ok (.ireturn, 1) := by decide +kernel
theorem dX2_isEmpty_0 : decode cX2_isEmpty 0 = .ok (.aload_n 0, 1) := by decide +kernel
theorem dX2_isEmpty_1 : decode cX2_isEmpty 1 = .ok (.getfield 17, 3) := by decide +kernel
theorem dX2_isEmpty_4 : decode cX2_isEmpty 4 = .ok (.ifCond .ne 7, 3) := by decide +kernel
theorem dX2_isEmpty_7 : decode cX2_isEmpty 7 = .ok (.iconst 1, 1) := by decide +kernel
theorem dX2_isEmpty_8 : decode cX2_isEmpty 8 = .ok (.goto 4, 3) := by decide +kernel
theorem dX2_isEmpty_11 : decode cX2_isEmpty 11 = .ok (.iconst 0, 1) := by decide +kernel
theorem dX2_isEmpty_12 : decode cX2_isEmpty 12 = .ok (.ireturn, 1) := by decide +kernel
theorem dX2_record_0 : decode cX2_record 0 = .ok (.aload_n 0, 1) := by decide +kernel
theorem dX2_record_1 : decode cX2_record 1 = .ok (.aload_n 0, 1) := by decide +kernel
theorem dX2_record_2 : decode cX2_record 2 = .ok (.getfield 17, 3) := by decide +kernel
theorem dX2_record_5 : decode cX2_record 5 = .ok (.invokevirtual 21, 3) := by decide +kernel
theorem dX2_record_8 : decode cX2_record 8 = .ok (.aload_n 1, 1) := by decide +kernel
theorem dX2_record_9 : decode cX2_record 9 = .ok (.invokevirtual 25, 3) := by decide +kernel
theorem dX2_record_12 : decode cX2_record 12 = .ok (.aload_n 0, 1) := by decide +kernel
theorem dX2_record_13 : decode cX2_record 13 = .ok (.getfield 17, 3) := by decide +kernel
theorem dX2_record_16 : decode cX2_record 16 = .ok (.bipush 8, 2) := by decide +kernel
theorem dX2_record_18 : decode cX2_record 18 = .ok (.if_icmp .ge 16, 3) := by decide +kernel
theorem dX2_record_21 : decode cX2_record 21 = .ok (.aload_n 0, 1) := by decide +kernel
theorem dX2_record_22 : decode cX2_record 22 = .ok (.dup, 1) := by decide +kernel
theorem dX2_record_23 : decode cX2_record 23 = .ok (.getfield 17, 3) := by decide +kernel
theorem dX2_record_26 : decode cX2_record 26 = .ok (.iconst 1, 1) := by decide +kernel
theorem dX2_record_27 : decode cX2_record 27 = .ok (.iadd, 1) := by decide +kernel
theorem dX2_record_28 : decode cX2_record 28 = .ok (.putfield 17, 3) := by decide +kernel
theorem dX2_record_31 : decode cX2_record 31 = .ok (.goto 16, 3) := by decide +kernel
theorem dX2_record_34 : decode cX2_record 34 = .ok (.aload_n 0, 1) := by decide +kernel
theorem dX2_record_35 : decode cX2_record 35 = .ok (.aload_n 0, 1) := by decide +kernel
theorem dX2_record_36 : decode cX2_record 36 = .ok (.getfield 29, 3) := by decide +kernel
theorem dX2_record_39 : decode cX2_record 39 = .ok (.iconst 1, 1) := by decide +kernel
theorem dX2_record_40 : decode cX2_record 40 = .ok (.iadd, 1) := by decide +kernel
theorem dX2_record_41 : decode cX2_record 41 = .ok (.bipush 8, 2) := by decide +kernel
theorem dX2_record_43 : decode cX2_record 43 = .ok (.irem, 1) := by decide +kernel
theorem dX2_record_44 : decode cX2_record 44 = .ok (.putfield 29, 3) := by decide +kernel
theorem dX2_record_47 : decode cX2_record 47 = .ok (.return_, 1) := by decide +kernel
theorem dX2_restoreInto_0 : decode cX2_restoreInto 0 = .ok (.aload_n 0, 1) := by decide +kernel
theorem dX2_restoreInto_1 : decode cX2_restoreInto 1 = .ok (.getfield 17, 3) := by decide +kernel
theorem dX2_restoreInto_4 : decode cX2_restoreInto 4 = .ok (.ifCond .le 25, 3) := by decide +kernel
theorem dX2_restoreInto_7 : decode cX2_restoreInto 7 = .ok (.aload_n 0, 1) := by decide +kernel
theorem dX2_restoreInto_8 : decode cX2_restoreInto 8 = .ok (.dup, 1) := by decide +kernel
theorem dX2_restoreInto_9 : decode cX2_restoreInto 9 = .ok (.getfield 17, 3) := by decide +kernel
theorem dX2_restoreInto_12 : decode cX2_restoreInto 12 = .ok (.iconst 1, 1) := by decide +kernel
theorem dX2_restoreInto_13 : decode cX2_restoreInto 13 = .ok (.isub, 1) := by decide +kernel
theorem dX2_restoreInto_14 : decode cX2_restoreInto 14 = .ok (.putfield 17, 3) := by decide +kernel
theorem dX2_restoreInto_17 : decode cX2_restoreInto 17 = .ok (.aload_n 1, 1) := by decide +kernel
theorem dX2_restoreInto_18 : decode cX2_restoreInto 18 = .ok (.aload_n 0, 1) := by decide +kernel
theorem dX2_restoreInto_19 : decode cX2_restoreInto 19 = .ok (.aload_n 0, 1) := by decide +kernel
theorem dX2_restoreInto_20 : decode cX2_restoreInto 20 = .ok (.getfield 17, 3) := by decide +kernel
theorem dX2_restoreInto_23 : decode cX2_restoreInto 23 = .ok (.invokevirtual 21, 3) := by decide +kernel
theorem dX2_restoreInto_26 : decode cX2_restoreInto 26 = .ok (.invokevirtual 25, 3) := by decide +kernel
theorem dX2_restoreInto_29 : decode cX2_restoreInto 29 = .ok (.return_, 1) := by decide +kernel
theorem dX2_at_0 : decode cX2_at 0 = .ok (.aload_n 0, 1) := by decide +kernel
theorem dX2_at_1 : decode cX2_at 1 = .ok (.getfield 29, 3) := by decide +kernel
theorem dX2_at_4 : decode cX2_at 4 = .ok (.iload_n 1, 1) := by decide +kernel
theorem dX2_at_5 : decode cX2_at 5 = .ok (.iadd, 1) := by decide +kernel
theorem dX2_at_6 : decode cX2_at 6 = .ok (.bipush 8, 2) := by decide +kernel
theorem dX2_at_8 : decode cX2_at 8 = .ok (.invokestatic 32, 3) := by decide +kernel
theorem dX2_at_11 : decode cX2_at 11 = .ok (.istore_n 2, 1) := by decide +kernel
theorem dX2_at_12 : decode cX2_at 12 = .ok (.aload_n 0, 1) := by decide +kernel
theorem dX2_at_13 : decode cX2_at 13 = .ok (.getfield 11, 3) := by decide +kernel
theorem dX2_at_16 : decode cX2_at 16 = .ok (.iload_n 2, 1) := by decide +kernel
theorem dX2_at_17 : decode cX2_at 17 = .ok (.aaload, 1) := by decide +kernel
theorem dX2_at_18 : decode cX2_at 18 = .ok (.astore_n 3, 1) := by decide +kernel
theorem dX2_at_19 : decode cX2_at 19 = .ok (.aload_n 3, 1) := by decide +kernel
theorem dX2_at_20 : decode cX2_at 20 = .ok (.ifnonnull 18, 3) := by decide +kernel
theorem dX2_at_23 : decode cX2_at 23 = .ok (.new 9, 3) := by decide +kernel
theorem dX2_at_26 : decode cX2_at 26 = .ok (.dup, 1) := by decide +kernel
theorem dX2_at_27 : decode cX2_at 27 = .ok (.invokespecial 38, 3) := by decide +kernel
theorem dX2_at_30 : decode cX2_at 30 = .ok (.astore_n 3, 1) := by decide +kernel
theorem dX2_at_31 : decode cX2_at 31 = .ok (.aload_n 0, 1) := by decide +kernel
theorem dX2_at_32 : decode cX2_at 32 = .ok (.getfield 11, 3) := by decide +kernel
theorem dX2_at_35 : decode cX2_at 35 = .ok (.iload_n 2, 1) := by decide +kernel
theorem dX2_at_36 : decode cX2_at 36 = .ok (.aload_n 3, 1) := by decide +kernel
theorem dX2_at_37 : decode cX2_at 37 = .ok (.aastore, 1) := by decide +kernel
theorem dX2_at_38 : decode cX2_at 38 = .ok (.aload_n 3, 1) := by decide +kernel
theorem dX2_at_39 : decode cX2_at 39 = .ok (.areturn, 1) := by decide +kernel
theorem dX3_init_0 : decode cX3_init 0 = .ok (.aload_n 0, 1) := by decide +kernel
theorem dX3_init_1 : decode cX3_init 1 = .ok (.invokespecial 3, 3) := by decide +kernel
theorem dX3_init_4 : decode cX3_init 4 = .ok (.aload_n 0, 1) := by decide +kernel
theorem dX3_init_5 : decode cX3_init 5 = .ok (.bipush 6, 2) := by decide +kernel
theorem dX3_init_7 : decode cX3_init 7 = .ok (.newarray .int, 2) := by decide +kernel
theorem dX3_init_9 : decode cX3_init 9 = .ok (.dup, 1) := by decide +kernel
theorem dX3_init_10 : decode cX3_init 10 = .ok (.iconst 0, 1) := by decide +kernel
theorem dX3_init_11 : decode cX3_init 11 = .ok (.iconst 0, 1) := by decide +kernel
theorem dX3_init_12 : decode cX3_init 12 = .ok (.iastore, 1) := by decide +kernel
theorem dX3_init_13 : decode cX3_init 13 = .ok (.dup, 1) := by decide +kernel
theorem dX3_init_14 : decode cX3_init 14 = .ok (.iconst 1, 1) := by decide +kernel
theorem dX3_init_15 : decode cX3_init 15 = .ok (.iconst 2, 1) := by decide +kernel
theorem dX3_init_16 : decode cX3_init 16 = .ok (.iastore, 1) := by decide +kernel
theorem dX3_init_17 : decode cX3_init 17 = .ok (.dup, 1) := by decide +kernel
theorem dX3_init_18 : decode cX3_init 18 = .ok (.iconst 2, 1) := by decide +kernel
theorem dX3_init_19 : decode cX3_init 19 = .ok (.iconst 4, 1) := by decide +kernel
theorem dX3_init_20 : decode cX3_init 20 = .ok (.iastore, 1) := by decide +kernel
theorem dX3_init_21 : decode cX3_init 21 = .ok (.dup, 1) := by decide +kernel
theorem dX3_init_22 : decode cX3_init 22 = .ok (.iconst 3, 1) := by decide +kernel
theorem dX3_init_23 : decode cX3_init 23 = .ok (.bipush 7, 2) := by decide +kernel
theorem dX3_init_25 : decode cX3_init 25 = .ok (.iastore, 1) := by decide +kernel
theorem dX3_init_26 : decode cX3_init 26 = .ok (.dup, 1) := by decide +kernel
theorem dX3_init_27 : decode cX3_init 27 = .ok (.iconst 4, 1) := by decide +kernel
theorem dX3_init_28 : decode cX3_init 28 = .ok (.bipush 10, 2) := by decide +kernel
theorem dX3_init_30 : decode cX3_init 30 = .ok (.iastore, 1) := by decide +kernel
theorem dX3_init_31 : decode cX3_init 31 = .ok (.dup, 1) := by decide +kernel
theorem dX3_init_32 : decode cX3_init 32 = .ok (.iconst 5, 1) := by decide +kernel
theorem dX3_init_33 : decode cX3_init 33 = .ok (.bipush 14, 2) := by decide +kernel
theorem dX3_init_35 : decode cX3_init 35 = .ok (.iastore, 1) := by decide +kernel
theorem dX3_init_36 : decode cX3_init 36 = .ok (.putfield 9, 3) := by decide +kernel
theorem dX3_init_39 : decode cX3_init 39 = .ok (.aload_n 0, 1) := by decide +kernel
theorem dX3_init_40 : decode cX3_init 40 = .ok (.bipush 6, 2) := by decide +kernel
theorem dX3_init_42 : decode cX3_init 42 = .ok (.newarray .int, 2) := by decide +kernel
theorem dX3_init_44 : decode cX3_init 44 = .ok (.dup, 1) := by decide +kernel
theorem dX3_init_45 : decode cX3_init 45 = .ok (.iconst 0, 1) := by decide +kernel
theorem dX3_init_46 : decode cX3_init 46 = .ok (.iconst 2, 1) := by decide +kernel
theorem dX3_init_47 : decode cX3_init 47 = .ok (.iastore, 1) := by decide +kernel
theorem dX3_init_48 : decode cX3_init 48 = .ok (.dup, 1) := by decide +kernel
theorem dX3_init_49 : decode cX3_init 49 = .ok (.iconst 1, 1) := by decide +kernel
theorem dX3_init_50 : decode cX3_init 50 = .ok (.iconst 2, 1) := by decide +kernel
theorem dX3_init_51 : decode cX3_init 51 = .ok (.iastore, 1) := by decide +kernel
theorem dX3_init_52 : decode cX3_init 52 = .ok (.dup, 1) := by decide +kernel
theorem dX3_init_53 : decode cX3_init 53 = .ok (.iconst 2, 1) := by decide +kernel
theorem dX3_init_54 : decode cX3_init 54 = .ok (.iconst 3, 1) := by decide +kernel
theorem dX3_init_55 : decode cX3_init 55 = .ok (.iastore, 1) := by decide +kernel
theorem dX3_init_56 : decode cX3_init 56 = .ok (.dup, 1) := by decide +kernel
theorem dX3_init_57 : decode cX3_init 57 = .ok (.iconst 3, 1) := by decide +kernel
theorem dX3_init_58 : decode cX3_init 58 = .ok (.iconst 3, 1) := by decide +kernel
theorem dX3_init_59 : decode cX3_init 59 = .ok (.iastore, 1) := by decide +kernel
theorem dX3_init_60 : decode cX3_init 60 = .ok (.dup, 1) := by decide +kernel
theorem dX3_init_61 : decode cX3_init 61 = .ok (.iconst 4, 1) := by decide +kernel
theorem dX3_init_62 : decode cX3_init 62 = .ok (.iconst 4, 1) := by decide +kernel
theorem dX3_init_63 : decode cX3_init 63 = .ok (.iastore, 1) := by decide +kernel
theorem dX3_init_64 : decode cX3_init 64 = .ok (.dup, 1) := by decide +kernel
theorem dX3_init_65 : decode cX3_init 65 = .ok (.iconst 5, 1) := by decide +kernel
theorem dX3_init_66 : decode cX3_init 66 = .ok (.iconst 1, 1) := by decide +kernel
theorem dX3_init_67 : decode cX3_init 67 = .ok (.iastore, 1) := by decide +kernel
theorem dX3_init_68 : decode cX3_init 68 = .ok (.putfield 15, 3) := by decide +kernel
theorem dX3_init_71 : decode cX3_init 71 = .ok (.return_, 1) := by decide +kernel
theorem dX3_firstOf_0 : decode cX3_firstOf 0 = .ok (.iload_n 1, 1) := by decide +kernel
theorem dX3_firstOf_1 : decode cX3_firstOf 1 = .ok (.invokestatic 18, 3) := by decide +kernel
theorem dX3_firstOf_4 : decode cX3_firstOf 4 = .ok (.ifCond .eq 12, 3) := by decide +kernel
theorem dX3_firstOf_7 : decode cX3_firstOf 7 = .ok (.aload_n 0, 1) := by decide +kernel
theorem dX3_firstOf_8 : decode cX3_firstOf 8 = .ok (.getfield 9, 3) := by decide +kernel
theorem dX3_firstOf_11 : decode cX3_firstOf 11 = .ok (.iload_n 1, 1) := by decide +kernel
theorem dX3_firstOf_12 : decode cX3_firstOf 12 = .ok (.iaload, 1) := by decide +kernel
theorem dX3_firstOf_13 : decode cX3_firstOf 13 = .ok (.goto 4, 3) := by decide +kernel
theorem dX3_firstOf_16 : decode cX3_firstOf 16 = .ok (.iconst 0, 1) := by decide +kernel
theorem dX3_firstOf_17 : decode cX3_firstOf 17 = .ok (.ireturn, 1) := by decide +kernel
theorem dX3_widthOf_0 : decode cX3_widthOf 0 = .ok (.iload_n 1, 1) := by decide +kernel
theorem dX3_widthOf_1 : decode cX3_widthOf 1 = .ok (.invokestatic 18, 3) := by decide +kernel
theorem dX3_widthOf_4 : decode cX3_widthOf 4 = .ok (.ifCond .eq 12, 3) := by decide +kernel
theorem dX3_widthOf_7 : decode cX3_widthOf 7 = .ok (.aload_n 0, 1) := by decide +kernel
theorem dX3_widthOf_8 : decode cX3_widthOf 8 = .ok (.getfield 15, 3) := by decide +kernel
theorem dX3_widthOf_11 : decode cX3_widthOf 11 = .ok (.iload_n 1, 1) := by decide +kernel
theorem dX3_widthOf_12 : decode cX3_widthOf 12 = .ok (.iaload, 1) := by decide +kernel
theorem dX3_widthOf_13 : decode cX3_widthOf 13 = .ok (.goto 4, 3) := by decide +kernel
theorem dX3_widthOf_16 : decode cX3_widthOf 16 = .ok (.iconst 0, 1) := by decide +kernel
theorem dX3_widthOf_17 : decode cX3_widthOf 17 = .ok (.ireturn, 1) := by decide +kernel
theorem dX3_place_0 : decode cX3_place 0 = .ok (.iload_n 1, 1) := by decide +kernel
theorem dX3_place_1 : decode cX3_place 1 = .ok (.invokestatic 18, 3) := by decide +kernel
theorem dX3_place_4 : decode cX3_place 4 = .ok (.ifCond .eq 17, 3) := by decide +kernel
theorem dX3_place_7 : decode cX3_place 7 = .ok (.aload_n 0, 1) := by decide +kernel
theorem dX3_place_8 : decode cX3_place 8 = .ok (.getfield 9, 3) := by decide +kernel
theorem dX3_place_11 : decode cX3_place 11 = .ok (.iload_n 1, 1) := by decide +kernel
theorem dX3_place_12 : decode cX3_place 12 = .ok (.iload_n 2, 1) := by decide +kernel
theorem dX3_place_13 : decode cX3_place 13 = .ok (.iastore, 1) := by decide +kernel
theorem dX3_place_14 : decode cX3_place 14 = .ok (.aload_n 0, 1) := by decide +kernel
theorem dX3_place_15 : decode cX3_place 15 = .ok (.getfield 15, 3) := by decide +kernel
theorem dX3_place_18 : decode cX3_place 18 = .ok (.iload_n 1, 1) := by decide +kernel
theorem dX3_place_19 : decode cX3_place 19 = .ok (.iload_n 3, 1) := by decide +kernel
theorem dX3_place_20 : decode cX3_place 20 = .ok (.iastore, 1) := by decide +kernel
theorem dX3_place_21 : decode cX3_place 21 = .ok (.return_, 1) := by decide +kernel
theorem dX3_valueOn_0 : decode cX3_valueOn 0 = .ok (.aload_n 0, 1) := by decide +kernel
theorem dX3_valueOn_1 : decode cX3_valueOn 1 = .ok (.iload_n 2, 1) := by decide +kernel
theorem dX3_valueOn_2 : decode cX3_valueOn 2 = .ok (.invokevirtual 22, 3) := by decide +kernel
theorem dX3_valueOn_5 : decode cX3_valueOn 5 = .ok (.istore_n 3, 1) := by decide +kernel
theorem dX3_valueOn_6 : decode cX3_valueOn 6 = .ok (.aload_n 0, 1) := by decide +kernel
theorem dX3_valueOn_7 : decode cX3_valueOn 7 = .ok (.iload_n 2, 1) := by decide +kernel
theorem dX3_valueOn_8 : decode cX3_valueOn 8 = .ok (.invokevirtual 26, 3) := by decide +kernel
theorem dX3_valueOn_11 : decode cX3_valueOn 11 = .ok (.istore 4, 2) := by decide +kernel
theorem dX3_valueOn_13 : decode cX3_valueOn 13 = .ok (.iconst 0, 1) := by decide +kernel
theorem dX3_valueOn_14 : decode cX3_valueOn 14 = .ok (.istore 5, 2) := by decide +kernel
theorem dX3_valueOn_16 : decode cX3_valueOn 16 = .ok (.iconst 0, 1) := by decide +kernel
theorem dX3_valueOn_17 : decode cX3_valueOn 17 = .ok (.istore 6, 2) := by decide +kernel
theorem dX3_valueOn_19 : decode cX3_valueOn 19 = .ok (.iload 6, 2) := by decide +kernel
theorem dX3_valueOn_21 : decode cX3_valueOn 21 = .ok (.iload 4, 2) := by decide +kernel
theorem dX3_valueOn_23 : decode cX3_valueOn 23 = .ok (.if_icmp .ge 39, 3) := by decide +kernel
theorem dX3_valueOn_26 : decode cX3_valueOn 26 = .ok (.aload_n 1, 1) := by decide +kernel
theorem dX3_valueOn_27 : decode cX3_valueOn 27 = .ok (.iload_n 3, 1) := by decide +kernel
theorem dX3_valueOn_28 : decode cX3_valueOn 28 = .ok (.iload 6, 2) := by decide +kernel
theorem dX3_valueOn_30 : decode cX3_valueOn 30 = .ok (.iadd, 1) := by decide +kernel
theorem dX3_valueOn_31 : decode cX3_valueOn 31 = .ok (.invokevirtual 29, 3) := by decide +kernel
theorem dX3_valueOn_34 : decode cX3_valueOn 34 = .ok (.istore 7, 2) := by decide +kernel
theorem dX3_valueOn_36 : decode cX3_valueOn 36 = .ok (.iload 7, 2) := by decide +kernel
theorem dX3_valueOn_38 : decode cX3_valueOn 38 = .ok (.ldc 34, 2) := by decide +kernel
theorem dX3_valueOn_40 : decode cX3_valueOn 40 = .ok (.if_icmp .ne 6, 3) := by decide +kernel
theorem dX3_valueOn_43 : decode cX3_valueOn 43 = .ok (.ldc 34, 2) := by decide +kernel
theorem dX3_valueOn_45 : decode cX3_valueOn 45 = .ok (.ireturn, 1) := by decide +kernel
theorem dX3_valueOn_46 : decode cX3_valueOn 46 = .ok (.bipush 10, 2) := by decide +kernel
theorem dX3_valueOn_48 : decode cX3_valueOn 48 = .ok (.iload 5, 2) := by decide +kernel
theorem dX3_valueOn_50 : decode cX3_valueOn 50 = .ok (.imul, 1) := by decide +kernel
theorem dX3_valueOn_51 : decode cX3_valueOn 51 = .ok (.iload 7, 2) := by decide +kernel
theorem dX3_valueOn_53 : decode cX3_valueOn 53 = .ok (.iadd, 1) := by decide +kernel
theorem dX3_valueOn_54 : decode cX3_valueOn 54 = .ok (.istore 5, 2) := by decide +kernel
theorem dX3_valueOn_56 : decode cX3_valueOn 56 = .ok (.iinc 6 1, 3) := by decide +kernel
theorem dX3_valueOn_59 : decode cX3_valueOn 59 = .ok (.goto (-40), 3) := by decide +kernel
theorem dX3_valueOn_62 : decode cX3_valueOn 62 = .ok (.iload 5, 2) := by decide +kernel
theorem dX3_valueOn_64 : decode cX3_valueOn 64 = .ok (.ireturn, 1) := by decide +kernel
theorem dX3_dueOn_0 : decode cX3_dueOn 0 = .ok (.iconst 0, 1) := by decide +kernel
theorem dX3_dueOn_1 : decode cX3_dueOn 1 = .ok (.istore_n 2, 1) := by decide +kernel
theorem dX3_dueOn_2 : decode cX3_dueOn 2 = .ok (.iconst 0, 1) := by decide +kernel
theorem dX3_dueOn_3 : decode cX3_dueOn 3 = .ok (.istore_n 3, 1) := by decide +kernel
theorem dX3_dueOn_4 : decode cX3_dueOn 4 = .ok (.iload_n 3, 1) := by decide +kernel
theorem dX3_dueOn_5 : decode cX3_dueOn 5 = .ok (.iconst 5, 1) := by decide +kernel
theorem dX3_dueOn_6 : decode cX3_dueOn 6 = .ok (.if_icmp .ge 18, 3) := by decide +kernel
theorem dX3_dueOn_9 : decode cX3_dueOn 9 = .ok (.iload_n 2, 1) := by decide +kernel
theorem dX3_dueOn_10 : decode cX3_dueOn 10 = .ok (.aload_n 0, 1) := by decide +kernel
theorem dX3_dueOn_11 : decode cX3_dueOn 11 = .ok (.aload_n 1, 1) := by decide +kernel
theorem dX3_dueOn_12 : decode cX3_dueOn 12 = .ok (.iload_n 3, 1) := by decide +kernel
theorem dX3_dueOn_13 : decode cX3_dueOn 13 = .ok (.invokevirtual 35, 3) := by decide +kernel
theorem dX3_dueOn_16 : decode cX3_dueOn 16 = .ok (.iadd, 1) := by decide +kernel
theorem dX3_dueOn_17 : decode cX3_dueOn 17 = .ok (.istore_n 2, 1) := by decide +kernel
theorem dX3_dueOn_18 : decode cX3_dueOn 18 = .ok (.iinc 3 1, 3) := by decide +kernel
theorem dX3_dueOn_21 : decode cX3_dueOn 21 = .ok (.goto (-17), 3) := by decide +kernel
theorem dX3_dueOn_24 : decode cX3_dueOn 24 = .ok (.iload_n 2, 1) := by decide +kernel
theorem dX3_dueOn_25 : decode cX3_dueOn 25 = .ok (.bipush 10, 2) := by decide +kernel
theorem dX3_dueOn_27 : decode cX3_dueOn 27 = .ok (.irem, 1) := by decide +kernel
theorem dX3_dueOn_28 : decode cX3_dueOn 28 = .ok (.ireturn, 1) := by decide +kernel
theorem dX3_weighedDigits_0 : decode cX3_weighedDigits 0 = .ok (.aload_n 0, 1) := by decide +kernel
theorem dX3_weighedDigits_1 : decode cX3_weighedDigits 1 = .ok (.iload_n 2, 1) := by decide +kernel
theorem dX3_weighedDigits_2 : decode cX3_weighedDigits 2 = .ok (.invokevirtual 22, 3) := by decide +kernel
theorem dX3_weighedDigits_5 : decode cX3_weighedDigits 5 = .ok (.istore_n 3, 1) := by decide +kernel
theorem dX3_weighedDigits_6 : decode cX3_weighedDigits 6 = .ok (.aload_n 0, 1) := by decide +kernel
theorem dX3_weighedDigits_7 : decode cX3_weighedDigits 7 = .ok (.iload_n 2, 1) := by decide +kernel
theorem dX3_weighedDigits_8 : decode cX3_weighedDigits 8 = .ok (.invokevirtual 26, 3) := by decide +kernel
theorem dX3_weighedDigits_11 : decode cX3_weighedDigits 11 = .ok (.istore 4, 2) := by decide +kernel
theorem dX3_weighedDigits_13 : decode cX3_weighedDigits 13 = .ok (.iconst 0, 1) := by decide +kernel
theorem dX3_weighedDigits_14 : decode cX3_weighedDigits 14 = .ok (.istore 5, 2) := by decide +kernel
theorem dX3_weighedDigits_16 : decode cX3_weighedDigits 16 = .ok (.iconst 0, 1) := by decide +kernel
theorem dX3_weighedDigits_17 : decode cX3_weighedDigits 17 = .ok (.istore 6, 2) := by decide +kernel
theorem dX3_weighedDigits_19 : decode cX3_weighedDigits 19 = .ok (.iload 6, 2) := by decide +kernel
theorem dX3_weighedDigits_21 : decode cX3_weighedDigits 21 = .ok (.iload 4, 2) := by decide +kernel
theorem dX3_weighedDigits_23 : decode cX3_weighedDigits 23 = .ok (.if_icmp .ge 47, 3) := by decide +kernel
theorem dX3_weighedDigits_26 : decode cX3_weighedDigits 26 = .ok (.aload_n 1, 1) := by decide +kernel
theorem dX3_weighedDigits_27 : decode cX3_weighedDigits 27 = .ok (.iload_n 3, 1) := by decide +kernel
theorem dX3_weighedDigits_28 : decode cX3_weighedDigits 28 = .ok (.iload 6, 2) := by decide +kernel
theorem dX3_weighedDigits_30 : decode cX3_weighedDigits 30 = .ok (.iadd, 1) := by decide +kernel
theorem dX3_weighedDigits_31 : decode cX3_weighedDigits 31 = .ok (.invokevirtual 29, 3) := by decide +kernel
theorem dX3_weighedDigits_34 : decode cX3_weighedDigits 34 = .ok (.istore 7, 2) := by decide +kernel
theorem dX3_weighedDigits_36 : decode cX3_weighedDigits 36 = .ok (.iload 7, 2) := by decide +kernel
theorem dX3_weighedDigits_38 : decode cX3_weighedDigits 38 = .ok (.ldc 34, 2) := by decide +kernel
theorem dX3_weighedDigits_40 : decode cX3_weighedDigits 40 = .ok (.if_icmp .eq 24, 3) := by decide +kernel
theorem dX3_weighedDigits_43 : decode cX3_weighedDigits 43 = .ok (.iload 5, 2) := by decide +kernel
theorem dX3_weighedDigits_45 : decode cX3_weighedDigits 45 = .ok (.iload 6, 2) := by decide +kernel
theorem dX3_weighedDigits_47 : decode cX3_weighedDigits 47 = .ok (.iconst 2, 1) := by decide +kernel
theorem dX3_weighedDigits_48 : decode cX3_weighedDigits 48 = .ok (.irem, 1) := by decide +kernel
theorem dX3_weighedDigits_49 : decode cX3_weighedDigits 49 = .ok (.ifCond .ne 10, 3) := by decide +kernel
theorem dX3_weighedDigits_52 : decode cX3_weighedDigits 52 = .ok (.iconst 3, 1) := by decide +kernel
theorem dX3_weighedDigits_53 : decode cX3_weighedDigits 53 = .ok (.iload 7, 2) := by decide +kernel
theorem dX3_weighedDigits_55 : decode cX3_weighedDigits 55 = .ok (.imul, 1) := by decide +kernel
theorem dX3_weighedDigits_56 : decode cX3_weighedDigits 56 = .ok (.goto 5, 3) := by decide +kernel
theorem dX3_weighedDigits_59 : decode cX3_weighedDigits 59 = .ok (.iload 7, 2) := by decide +kernel
theorem dX3_weighedDigits_61 : decode cX3_weighedDigits 61 = .ok (.iadd, 1) := by decide +kernel
theorem dX3_weighedDigits_62 : decode cX3_weighedDigits 62 = .ok (.istore 5, 2) := by decide +kernel
theorem dX3_weighedDigits_64 : decode cX3_weighedDigits 64 = .ok (.iinc 6 1, 3) := by decide +kernel
theorem dX3_weighedDigits_67 : decode cX3_weighedDigits 67 = .ok (.goto (-48), 3) := by decide +kernel
theorem dX3_weighedDigits_70 : decode cX3_weighedDigits 70 = .ok (.iload 5, 2) := by decide +kernel
theorem dX3_weighedDigits_72 : decode cX3_weighedDigits 72 = .ok (.ireturn, 1) := by decide +kernel
theorem dX3_keyOn_0 : decode cX3_keyOn 0 = .ok (.aload_n 0, 1) := by decide +kernel
theorem dX3_keyOn_1 : decode cX3_keyOn 1 = .ok (.aload_n 1, 1) := by decide +kernel
theorem dX3_keyOn_2 : decode cX3_keyOn 2 = .ok (.iconst 0, 1) := by decide +kernel
theorem dX3_keyOn_3 : decode cX3_keyOn 3 = .ok (.invokevirtual 39, 3) := by decide +kernel
theorem dX3_keyOn_6 : decode cX3_keyOn 6 = .ok (.istore_n 2, 1) := by decide +kernel
theorem dX3_keyOn_7 : decode cX3_keyOn 7 = .ok (.aload_n 0, 1) := by decide +kernel
theorem dX3_keyOn_8 : decode cX3_keyOn 8 = .ok (.aload_n 1, 1) := by decide +kernel
theorem dX3_keyOn_9 : decode cX3_keyOn 9 = .ok (.iconst 1, 1) := by decide +kernel
theorem dX3_keyOn_10 : decode cX3_keyOn 10 = .ok (.invokevirtual 39, 3) := by decide +kernel
theorem dX3_keyOn_13 : decode cX3_keyOn 13 = .ok (.istore_n 3, 1) := by decide +kernel
theorem dX3_keyOn_14 : decode cX3_keyOn 14 = .ok (.aload_n 0, 1) := by decide +kernel
theorem dX3_keyOn_15 : decode cX3_keyOn 15 = .ok (.aload_n 1, 1) := by decide +kernel
theorem dX3_keyOn_16 : decode cX3_keyOn 16 = .ok (.iconst 2, 1) := by decide +kernel
theorem dX3_keyOn_17 : decode cX3_keyOn 17 = .ok (.invokevirtual 39, 3) := by decide +kernel
theorem dX3_keyOn_20 : decode cX3_keyOn 20 = .ok (.istore 4, 2) := by decide +kernel
theorem dX3_keyOn_22 : decode cX3_keyOn 22 = .ok (.iload_n 2, 1) := by decide +kernel
theorem dX3_keyOn_23 : decode cX3_keyOn 23 = .ok (.ldc 34, 2) := by decide +kernel
theorem dX3_keyOn_25 : decode cX3_keyOn 25 = .ok (.if_icmp .eq 16, 3) := by decide +kernel
theorem dX3_keyOn_28 : decode cX3_keyOn 28 = .ok (.iload_n 3, 1) := by decide +kernel
theorem dX3_keyOn_29 : decode cX3_keyOn 29 = .ok (.ldc 34, 2) := by decide +kernel
theorem dX3_keyOn_31 : decode cX3_keyOn 31 = .ok (.if_icmp .eq 10, 3) := by decide +kernel
theorem dX3_keyOn_34 : decode cX3_keyOn 34 = .ok (.iload 4, 2) := by decide +kernel
theorem dX3_keyOn_36 : decode cX3_keyOn 36 = .ok (.ldc 34, 2) := by decide +kernel
theorem dX3_keyOn_38 : decode cX3_keyOn 38 = .ok (.if_icmp .ne 7, 3) := by decide +kernel
theorem dX3_keyOn_41 : decode cX3_keyOn 41 = .ok (.ldc2_w 42, 3) := by decide +kernel
theorem dX3_keyOn_44 : decode cX3_keyOn 44 = .ok (.lreturn, 1) := by decide +kernel
theorem dX3_keyOn_45 : decode cX3_keyOn 45 = .ok (.iload_n 2, 1) := by decide +kernel
theorem dX3_keyOn_46 : decode cX3_keyOn 46 = .ok (.iload_n 3, 1) := by decide +kernel
theorem dX3_keyOn_47 : decode cX3_keyOn 47 = .ok (.iload 4, 2) := by decide +kernel
theorem dX3_keyOn_49 : decode cX3_keyOn 49 = .ok (.invokestatic 44, 3) := by decide +kernel
theorem dX3_keyOn_52 : decode cX3_keyOn 52 = .ok (.lreturn, 1) := by decide +kernel
theorem dX3_copyFrom_0 : decode cX3_copyFrom 0 = .ok (.aload_n 1, 1) := by decide +kernel
theorem dX3_copyFrom_1 : decode cX3_copyFrom 1 = .ok (.getfield 9, 3) := by decide +kernel
theorem dX3_copyFrom_4 : decode cX3_copyFrom 4 = .ok (.iconst 0, 1) := by decide +kernel
theorem dX3_copyFrom_5 : decode cX3_copyFrom 5 = .ok (.aload_n 0, 1) := by decide +kernel
theorem dX3_copyFrom_6 : decode cX3_copyFrom 6 = .ok (.getfield 9, 3) := by decide +kernel
theorem dX3_copyFrom_9 : decode cX3_copyFrom 9 = .ok (.iconst 0, 1) := by decide +kernel
theorem dX3_copyFrom_10 : decode cX3_copyFrom 10 = .ok (.bipush 6, 2) := by decide +kernel
theorem dX3_copyFrom_12 : decode cX3_copyFrom 12 = .ok (.invokestatic 50, 3) := by decide +kernel
theorem dX3_copyFrom_15 : decode cX3_copyFrom 15 = .ok (.aload_n 1, 1) := by decide +kernel
theorem dX3_copyFrom_16 : decode cX3_copyFrom 16 = .ok (.getfield 15, 3) := by decide +kernel
theorem dX3_copyFrom_19 : decode cX3_copyFrom 19 = .ok (.iconst 0, 1) := by decide +kernel
theorem dX3_copyFrom_20 : decode cX3_copyFrom 20 = .ok (.aload_n 0, 1) := by decide +kernel
theorem dX3_copyFrom_21 : decode cX3_copyFrom 21 = .ok (.getfield 15, 3) := by decide +kernel
theorem dX3_copyFrom_24 : decode cX3_copyFrom 24 = .ok (.iconst 0, 1) := by decide +kernel
theorem dX3_copyFrom_25 : decode cX3_copyFrom 25 = .ok (.bipush 6, 2) := by decide +kernel
theorem dX3_copyFrom_27 : decode cX3_copyFrom 27 = .ok (.invokestatic 50, 3) := by decide +kernel
theorem dX3_copyFrom_30 : decode cX3_copyFrom 30 = .ok (.return_, 1) := by decide +kernel
theorem dX4_init_0 : decode cX4_init 0 = .ok (.aload_n 0, 1) := by decide +kernel
theorem dX4_init_1 : decode cX4_init 1 = .ok (.invokespecial 3, 3) := by decide +kernel
theorem dX4_init_4 : decode cX4_init 4 = .ok (.aload_n 0, 1) := by decide +kernel
theorem dX4_init_5 : decode cX4_init 5 = .ok (.new 9, 3) := by decide +kernel
theorem dX4_init_8 : decode cX4_init 8 = .ok (.dup, 1) := by decide +kernel
theorem dX4_init_9 : decode cX4_init 9 = .ok (.invokespecial 11, 3) := by decide +kernel
theorem dX4_init_12 : decode cX4_init 12 = .ok (.putfield 12, 3) := by decide +kernel
theorem dX4_init_15 : decode cX4_init 15 = .ok (.aload_n 0, 1) := by decide +kernel
theorem dX4_init_16 : decode cX4_init 16 = .ok (.new 9, 3) := by decide +kernel
theorem dX4_init_19 : decode cX4_init 19 = .ok (.dup, 1) := by decide +kernel
theorem dX4_init_20 : decode cX4_init 20 = .ok (.invokespecial 11, 3) := by decide +kernel
theorem dX4_init_23 : decode cX4_init 23 = .ok (.putfield 18, 3) := by decide +kernel
theorem dX4_init_26 : decode cX4_init 26 = .ok (.aload_n 0, 1) := by decide +kernel
theorem dX4_init_27 : decode cX4_init 27 = .ok (.new 9, 3) := by decide +kernel
theorem dX4_init_30 : decode cX4_init 30 = .ok (.dup, 1) := by decide +kernel
theorem dX4_init_31 : decode cX4_init 31 = .ok (.invokespecial 11, 3) := by decide +kernel
theorem dX4_init_34 : decode cX4_init 34 = .ok (.putfield 21, 3) := by decide +kernel
theorem dX4_init_37 : decode cX4_init 37 = .ok (.aload_n 0, 1) := by decide +kernel
theorem dX4_init_38 : decode cX4_init 38 = .ok (.new 9, 3) := by decide +kernel
theorem dX4_init_41 : decode cX4_init 41 = .ok (.dup, 1) := by decide +kernel
theorem dX4_init_42 : decode cX4_init 42 = .ok (.invokespecial 11, 3) := by decide +kernel
theorem dX4_init_45 : decode cX4_init 45 = .ok (.putfield 24, 3) := by decide +kernel
theorem dX4_init_48 : decode cX4_init 48 = .ok (.return_, 1) := by decide +kernel
theorem dX4_begin_0 : decode cX4_begin 0 = .ok (.aload_n 0, 1) := by decide +kernel
theorem dX4_begin_1 : decode cX4_begin 1 = .ok (.getfield 12, 3) := by decide +kernel
theorem dX4_begin_4 : decode cX4_begin 4 = .ok (.invokevirtual 27, 3) := by decide +kernel
theorem dX4_begin_7 : decode cX4_begin 7 = .ok (.aload_n 0, 1) := by decide +kernel
theorem dX4_begin_8 : decode cX4_begin 8 = .ok (.getfield 18, 3) := by decide +kernel
theorem dX4_begin_11 : decode cX4_begin 11 = .ok (.invokevirtual 27, 3) := by decide +kernel
theorem dX4_begin_14 : decode cX4_begin 14 = .ok (.aload_n 0, 1) := by decide +kernel
theorem dX4_begin_15 : decode cX4_begin 15 = .ok (.getfield 21, 3) := by decide +kernel
theorem dX4_begin_18 : decode cX4_begin 18 = .ok (.invokevirtual 27, 3) := by decide +kernel
theorem dX4_begin_21 : decode cX4_begin 21 = .ok (.aload_n 0, 1) := by decide +kernel
theorem dX4_begin_22 : decode cX4_begin 22 = .ok (.getfield 24, 3) := by decide +kernel
theorem dX4_begin_25 : decode cX4_begin 25 = .ok (.invokevirtual 27, 3) := by decide +kernel
theorem dX4_begin_28 : decode cX4_begin 28 = .ok (.return_, 1) := by decide +kernel
theorem dX4_accept_0 : decode cX4_accept 0 = .ok (.aload_n 0, 1) := by decide +kernel
theorem dX4_accept_1 : decode cX4_accept 1 = .ok (.getfield 24, 3) := by decide +kernel
theorem dX4_accept_4 : decode cX4_accept 4 = .ok (.getfield 30, 3) := by decide +kernel
theorem dX4_accept_7 : decode cX4_accept 7 = .ok (.ifCond .le 24, 3) := by decide +kernel
theorem dX4_accept_10 : decode cX4_accept 10 = .ok (.aload_n 2, 1) := by decide +kernel
theorem dX4_accept_11 : decode cX4_accept 11 = .ok (.invokevirtual 34, 3) := by decide +kernel
theorem dX4_accept_14 : decode cX4_accept 14 = .ok (.aload_n 0, 1) := by decide +kernel
theorem dX4_accept_15 : decode cX4_accept 15 = .ok (.getfield 24, 3) := by decide +kernel
theorem dX4_accept_18 : decode cX4_accept 18 = .ok (.invokevirtual 34, 3) := by decide +kernel
theorem dX4_accept_21 : decode cX4_accept 21 = .ok (.lcmp, 1) := by decide +kernel
theorem dX4_accept_22 : decode cX4_accept 22 = .ok (.ifCond .eq 9, 3) := by decide +kernel
theorem dX4_accept_25 : decode cX4_accept 25 = .ok (.aload_n 0, 1) := by decide +kernel
theorem dX4_accept_26 : decode cX4_accept 26 = .ok (.aload_n 1, 1) := by decide +kernel
theorem dX4_accept_27 : decode cX4_accept 27 = .ok (.aload_n 2, 1) := by decide +kernel
theorem dX4_accept_28 : decode cX4_accept 28 = .ok (.invokevirtual 38, 3) := by decide +kernel
theorem dX4_accept_31 : decode cX4_accept 31 = .ok (.aload_n 1, 1) := by decide +kernel
theorem dX4_accept_32 : decode cX4_accept 32 = .ok (.iconst 0, 1) := by decide +kernel
theorem dX4_accept_33 : decode cX4_accept 33 = .ok (.aload_n 2, 1) := by decide +kernel
theorem dX4_accept_34 : decode cX4_accept 34 = .ok (.iload_n 3, 1) := by decide +kernel
theorem dX4_accept_35 : decode cX4_accept 35 = .ok (.invokevirtual 42, 3) := by decide +kernel
theorem dX4_accept_38 : decode cX4_accept 38 = .ok (.aload_n 0, 1) := by decide +kernel
theorem dX4_accept_39 : decode cX4_accept 39 = .ok (.getfield 12, 3) := by decide +kernel
theorem dX4_accept_42 : decode cX4_accept 42 = .ok (.aload_n 2, 1) := by decide +kernel
theorem dX4_accept_43 : decode cX4_accept 43 = .ok (.invokevirtual 48, 3) := by decide +kernel
theorem dX4_accept_46 : decode cX4_accept 46 = .ok (.aload_n 0, 1) := by decide +kernel
theorem dX4_accept_47 : decode cX4_accept 47 = .ok (.getfield 18, 3) := by decide +kernel
theorem dX4_accept_50 : decode cX4_accept 50 = .ok (.aload_n 2, 1) := by decide +kernel
theorem dX4_accept_51 : decode cX4_accept 51 = .ok (.invokevirtual 48, 3) := by decide +kernel
theorem dX4_accept_54 : decode cX4_accept 54 = .ok (.aload_n 0, 1) := by decide +kernel
theorem dX4_accept_55 : decode cX4_accept 55 = .ok (.getfield 21, 3) := by decide +kernel
theorem dX4_accept_58 : decode cX4_accept 58 = .ok (.aload_n 2, 1) := by decide +kernel
theorem dX4_accept_59 : decode cX4_accept 59 = .ok (.invokevirtual 48, 3) := by decide +kernel
theorem dX4_accept_62 : decode cX4_accept 62 = .ok (.aload_n 0, 1) := by decide +kernel
theorem dX4_accept_63 : decode cX4_accept 63 = .ok (.getfield 24, 3) := by decide +kernel
theorem dX4_accept_66 : decode cX4_accept 66 = .ok (.aload_n 2, 1) := by decide +kernel
theorem dX4_accept_67 : decode cX4_accept 67 = .ok (.invokevirtual 48, 3) := by decide +kernel
theorem dX4_accept_70 : decode cX4_accept 70 = .ok (.return_, 1) := by decide +kernel
theorem dX4_end_0 : decode cX4_end 0 = .ok (.aload_n 0, 1) := by decide +kernel
theorem dX4_end_1 : decode cX4_end 1 = .ok (.getfield 24, 3) := by decide +kernel
theorem dX4_end_4 : decode cX4_end 4 = .ok (.getfield 30, 3) := by decide +kernel
theorem dX4_end_7 : decode cX4_end 7 = .ok (.ifCond .le 18, 3) := by decide +kernel
theorem dX4_end_10 : decode cX4_end 10 = .ok (.aload_n 0, 1) := by decide +kernel
theorem dX4_end_11 : decode cX4_end 11 = .ok (.aload_n 1, 1) := by decide +kernel
theorem dX4_end_12 : decode cX4_end 12 = .ok (.invokevirtual 52, 3) := by decide +kernel
theorem dX4_end_15 : decode cX4_end 15 = .ok (.aload_n 0, 1) := by decide +kernel
theorem dX4_end_16 : decode cX4_end 16 = .ok (.aload_n 1, 1) := by decide +kernel
theorem dX4_end_17 : decode cX4_end 17 = .ok (.invokevirtual 56, 3) := by decide +kernel
theorem dX4_end_20 : decode cX4_end 20 = .ok (.aload_n 0, 1) := by decide +kernel
theorem dX4_end_21 : decode cX4_end 21 = .ok (.aload_n 1, 1) := by decide +kernel
theorem dX4_end_22 : decode cX4_end 22 = .ok (.invokevirtual 59, 3) := by decide +kernel
theorem dX4_end_25 : decode cX4_end 25 = .ok (.aload_n 1, 1) := by decide +kernel
theorem dX4_end_26 : decode cX4_end 26 = .ok (.iconst 4, 1) := by decide +kernel
theorem dX4_end_27 : decode cX4_end 27 = .ok (.aload_n 0, 1) := by decide +kernel
theorem dX4_end_28 : decode cX4_end 28 = .ok (.getfield 24, 3) := by decide +kernel
theorem dX4_end_31 : decode cX4_end 31 = .ok (.ldc 62, 2) := by decide +kernel
theorem dX4_end_33 : decode cX4_end 33 = .ok (.invokevirtual 42, 3) := by decide +kernel
theorem dX4_end_36 : decode cX4_end 36 = .ok (.return_, 1) := by decide +kernel
theorem dX4_breakBefore_0 : decode cX4_breakBefore 0 = .ok (.aload_n 2, 1) := by decide +kernel
theorem dX4_breakBefore_1 : decode cX4_breakBefore 1 = .ok (.getfield 63, 3) := by decide +kernel
theorem dX4_breakBefore_4 : decode cX4_breakBefore 4 = .ok (.aload_n 0, 1) := by decide +kernel
theorem dX4_breakBefore_5 : decode cX4_breakBefore 5 = .ok (.getfield 24, 3) := by decide +kernel
theorem dX4_breakBefore_8 : decode cX4_breakBefore 8 = .ok (.getfield 63, 3) := by decide +kernel
theorem dX4_breakBefore_11 : decode cX4_breakBefore 11 = .ok (.if_icmp .eq 7, 3) := by decide +kernel
theorem dX4_breakBefore_14 : decode cX4_breakBefore 14 = .ok (.iconst 1, 1) := by decide +kernel
theorem dX4_breakBefore_15 : decode cX4_breakBefore 15 = .ok (.goto 4, 3) := by decide +kernel
theorem dX4_breakBefore_18 : decode cX4_breakBefore 18 = .ok (.iconst 0, 1) := by decide +kernel
theorem dX4_breakBefore_19 : decode cX4_breakBefore 19 = .ok (.istore_n 3, 1) := by decide +kernel
theorem dX4_breakBefore_20 : decode cX4_breakBefore 20 = .ok (.aload_n 0, 1) := by decide +kernel
theorem dX4_breakBefore_21 : decode cX4_breakBefore 21 = .ok (.aload_n 1, 1) := by decide +kernel
theorem dX4_breakBefore_22 : decode cX4_breakBefore 22 = .ok (.invokevirtual 52, 3) := by decide +kernel
theorem dX4_breakBefore_25 : decode cX4_breakBefore 25 = .ok (.iload_n 3, 1) := by decide +kernel
theorem dX4_breakBefore_26 : decode cX4_breakBefore 26 = .ok (.ifCond .ne 17, 3) := by decide +kernel
theorem dX4_breakBefore_29 : decode cX4_breakBefore 29 = .ok (.aload_n 2, 1) := by decide +kernel
theorem dX4_breakBefore_30 : decode cX4_breakBefore 30 = .ok (.getfield 65, 3) := by decide +kernel
theorem dX4_breakBefore_33 : decode cX4_breakBefore 33 = .ok (.aload_n 0, 1) := by decide +kernel
theorem dX4_breakBefore_34 : decode cX4_breakBefore 34 = .ok (.getfield 24, 3) := by decide +kernel
theorem dX4_breakBefore_37 : decode cX4_breakBefore 37 = .ok (.getfield 65, 3) := by decide +kernel
theorem dX4_breakBefore_40 : decode cX4_breakBefore 40 = .ok (.if_icmp .eq 8, 3) := by decide +kernel
theorem dX4_breakBefore_43 : decode cX4_breakBefore 43 = .ok (.aload_n 0, 1) := by decide +kernel
theorem dX4_breakBefore_44 : decode cX4_breakBefore 44 = .ok (.aload_n 1, 1) := by decide +kernel
theorem dX4_breakBefore_45 : decode cX4_breakBefore 45 = .ok (.invokevirtual 56, 3) := by decide +kernel
theorem dX4_breakBefore_48 : decode cX4_breakBefore 48 = .ok (.iload_n 3, 1) := by decide +kernel
theorem dX4_breakBefore_49 : decode cX4_breakBefore 49 = .ok (.ifCond .eq 8, 3) := by decide +kernel
theorem dX4_breakBefore_52 : decode cX4_breakBefore 52 = .ok (.aload_n 0, 1) := by decide +kernel
theorem dX4_breakBefore_53 : decode cX4_breakBefore 53 = .ok (.aload_n 1, 1) := by decide +kernel
theorem dX4_breakBefore_54 : decode cX4_breakBefore 54 = .ok (.invokevirtual 59, 3) := by decide +kernel
theorem dX4_breakBefore_57 : decode cX4_breakBefore 57 = .ok (.return_, 1) := by decide +kernel
theorem dX4_breakWorker_0 : decode cX4_breakWorker 0 = .ok (.aload_n 0, 1) := by decide +kernel
theorem dX4_breakWorker_1 : decode cX4_breakWorker 1 = .ok (.getfield 12, 3) := by decide +kernel
theorem dX4_breakWorker_4 : decode cX4_breakWorker 4 = .ok (.aload_n 1, 1) := by decide +kernel
theorem dX4_breakWorker_5 : decode cX4_breakWorker 5 = .ok (.getfield 67, 3) := by decide +kernel
theorem dX4_breakWorker_8 : decode cX4_breakWorker 8 = .ok (.invokevirtual 70, 3) := by decide +kernel
theorem dX4_breakWorker_11 : decode cX4_breakWorker 11 = .ok (.istore_n 2, 1) := by decide +kernel
theorem dX4_breakWorker_12 : decode cX4_breakWorker 12 = .ok (.aload_n 0, 1) := by decide +kernel
theorem dX4_breakWorker_13 : decode cX4_breakWorker 13 = .ok (.getfield 12, 3) := by decide +kernel
theorem dX4_breakWorker_16 : decode cX4_breakWorker 16 = .ok (.iload_n 2, 1) := by decide +kernel
theorem dX4_breakWorker_17 : decode cX4_breakWorker 17 = .ok (.invokevirtual 74, 3) := by decide +kernel
theorem dX4_breakWorker_20 : decode cX4_breakWorker 20 = .ok (.aload_n 0, 1) := by decide +kernel
theorem dX4_breakWorker_21 : decode cX4_breakWorker 21 = .ok (.getfield 18, 3) := by decide +kernel
theorem dX4_breakWorker_24 : decode cX4_breakWorker 24 = .ok (.iload_n 2, 1) := by decide +kernel
theorem dX4_breakWorker_25 : decode cX4_breakWorker 25 = .ok (.invokevirtual 74, 3) := by decide +kernel
theorem dX4_breakWorker_28 : decode cX4_breakWorker 28 = .ok (.aload_n 0, 1) := by decide +kernel
theorem dX4_breakWorker_29 : decode cX4_breakWorker 29 = .ok (.getfield 21, 3) := by decide +kernel
theorem dX4_breakWorker_32 : decode cX4_breakWorker 32 = .ok (.iload_n 2, 1) := by decide +kernel
theorem dX4_breakWorker_33 : decode cX4_breakWorker 33 = .ok (.invokevirtual 74, 3) := by decide +kernel
theorem dX4_breakWorker_36 : decode cX4_breakWorker 36 = .ok (.aload_n 0, 1) := by decide +kernel
theorem dX4_breakWorker_37 : decode cX4_breakWorker 37 = .ok (.getfield 24, 3) := by decide +kernel
theorem dX4_breakWorker_40 : decode cX4_breakWorker 40 = .ok (.iload_n 2, 1) := by decide +kernel
theorem dX4_breakWorker_41 : decode cX4_breakWorker 41 = .ok (.invokevirtual 74, 3) := by decide +kernel
theorem dX4_breakWorker_44 : decode cX4_breakWorker 44 = .ok (.aload_n 1, 1) := by decide +kernel
theorem dX4_breakWorker_45 : decode cX4_breakWorker 45 = .ok (.iconst 1, 1) := by decide +kernel
theorem dX4_breakWorker_46 : decode cX4_breakWorker 46 = .ok (.aload_n 0, 1) := by decide +kernel
theorem dX4_breakWorker_47 : decode cX4_breakWorker 47 = .ok (.getfield 12, 3) := by decide +kernel
theorem dX4_breakWorker_50 : decode cX4_breakWorker 50 = .ok (.ldc 62, 2) := by decide +kernel
theorem dX4_breakWorker_52 : decode cX4_breakWorker 52 = .ok (.invokevirtual 42, 3) := by decide +kernel
theorem dX4_breakWorker_55 : decode cX4_breakWorker 55 = .ok (.aload_n 0, 1) := by decide +kernel
theorem dX4_breakWorker_56 : decode cX4_breakWorker 56 = .ok (.getfield 12, 3) := by decide +kernel
theorem dX4_breakWorker_59 : decode cX4_breakWorker 59 = .ok (.invokevirtual 27, 3) := by decide +kernel
theorem dX4_breakWorker_62 : decode cX4_breakWorker 62 = .ok (.return_, 1) := by decide +kernel
theorem dX4_breakGroup_0 : decode cX4_breakGroup 0 = .ok (.aload_n 1, 1) := by decide +kernel
theorem dX4_breakGroup_1 : decode cX4_breakGroup 1 = .ok (.iconst 2, 1) := by decide +kernel
theorem dX4_breakGroup_2 : decode cX4_breakGroup 2 = .ok (.aload_n 0, 1) := by decide +kernel
theorem dX4_breakGroup_3 : decode cX4_breakGroup 3 = .ok (.getfield 18, 3) := by decide +kernel
theorem dX4_breakGroup_6 : decode cX4_breakGroup 6 = .ok (.ldc 62, 2) := by decide +kernel
theorem dX4_breakGroup_8 : decode cX4_breakGroup 8 = .ok (.invokevirtual 42, 3) := by decide +kernel
theorem dX4_breakGroup_11 : decode cX4_breakGroup 11 = .ok (.aload_n 0, 1) := by decide +kernel
theorem dX4_breakGroup_12 : decode cX4_breakGroup 12 = .ok (.getfield 18, 3) := by decide +kernel
theorem dX4_breakGroup_15 : decode cX4_breakGroup 15 = .ok (.invokevirtual 27, 3) := by decide +kernel
theorem dX4_breakGroup_18 : decode cX4_breakGroup 18 = .ok (.return_, 1) := by decide +kernel
theorem dX4_breakDepartment_0 : decode cX4_breakDepartment 0 = .ok (.aload_n 1, 1) := by decide +kernel
theorem dX4_breakDepartment_1 : decode cX4_breakDepartment 1 = .ok (.iconst 3, 1) := by decide +kernel
theorem dX4_breakDepartment_2 : decode cX4_breakDepartment 2 = .ok (.aload_n 0, 1) := by decide +kernel
theorem dX4_breakDepartment_3 : decode cX4_breakDepartment 3 = .ok (.getfield 21, 3) := by decide +kernel
theorem dX4_breakDepartment_6 : decode cX4_breakDepartment 6 = .ok (.ldc 62, 2) := by decide +kernel
theorem dX4_breakDepartment_8 : decode cX4_breakDepartment 8 = .ok (.invokevirtual 42, 3) := by decide +kernel
theorem dX4_breakDepartment_11 : decode cX4_breakDepartment 11 = .ok (.aload_n 0, 1) := by decide +kernel
theorem dX4_breakDepartment_12 : decode cX4_breakDepartment 12 = .ok (.getfield 21, 3) := by decide +kernel
theorem dX4_breakDepartment_15 : decode cX4_breakDepartment 15 = .ok (.invokevirtual 27, 3) := by decide +kernel
theorem dX4_breakDepartment_18 : decode cX4_breakDepartment 18 = .ok (.return_, 1) := by decide +kernel
theorem dX5_init_0 : decode cX5_init 0 = .ok (.aload_n 0, 1) := by decide +kernel
theorem dX5_init_1 : decode cX5_init 1 = .ok (.invokespecial 3, 3) := by decide +kernel
theorem dX5_init_4 : decode cX5_init 4 = .ok (.aload_n 0, 1) := by decide +kernel
theorem dX5_init_5 : decode cX5_init 5 = .ok (.sipush 1610, 3) := by decide +kernel
theorem dX5_init_8 : decode cX5_init 8 = .ok (.newarray .int, 2) := by decide +kernel
theorem dX5_init_10 : decode cX5_init 10 = .ok (.putfield 9, 3) := by decide +kernel
theorem dX5_init_13 : decode cX5_init 13 = .ok (.aload_n 0, 1) := by decide +kernel
theorem dX5_init_14 : decode cX5_init 14 = .ok (.bipush 40, 2) := by decide +kernel
theorem dX5_init_16 : decode cX5_init 16 = .ok (.newarray .int, 2) := by decide +kernel
theorem dX5_init_18 : decode cX5_init 18 = .ok (.putfield 15, 3) := by decide +kernel
theorem dX5_init_21 : decode cX5_init 21 = .ok (.return_, 1) := by decide +kernel
theorem dX5_begin_0 : decode cX5_begin 0 = .ok (.aload_n 0, 1) := by decide +kernel
theorem dX5_begin_1 : decode cX5_begin 1 = .ok (.iconst 0, 1) := by decide +kernel
theorem dX5_begin_2 : decode cX5_begin 2 = .ok (.putfield 18, 3) := by decide +kernel
theorem dX5_begin_5 : decode cX5_begin 5 = .ok (.aload_n 0, 1) := by decide +kernel
theorem dX5_begin_6 : decode cX5_begin 6 = .ok (.iload_n 1, 1) := by decide +kernel
theorem dX5_begin_7 : decode cX5_begin 7 = .ok (.bipush 40, 2) := by decide +kernel
theorem dX5_begin_9 : decode cX5_begin 9 = .ok (.invokestatic 22, 3) := by decide +kernel
theorem dX5_begin_12 : decode cX5_begin 12 = .ok (.putfield 28, 3) := by decide +kernel
theorem dX5_begin_15 : decode cX5_begin 15 = .ok (.aload_n 0, 1) := by decide +kernel
theorem dX5_begin_16 : decode cX5_begin 16 = .ok (.iload_n 2, 1) := by decide +kernel
theorem dX5_begin_17 : decode cX5_begin 17 = .ok (.putfield 31, 3) := by decide +kernel
theorem dX5_begin_20 : decode cX5_begin 20 = .ok (.return_, 1) := by decide +kernel
theorem dX5_isEmpty_0 : decode cX5_isEmpty 0 = .ok (.aload_n 0, 1) := by decide +kernel
theorem dX5_isEmpty_1 : decode cX5_isEmpty 1 = .ok (.getfield 18, 3) := by decide +kernel
theorem dX5_isEmpty_4 : decode cX5_isEmpty 4 = .ok (.ifCond .ne 7, 3) := by decide +kernel
theorem dX5_isEmpty_7 : decode cX5_isEmpty 7 = .ok (.iconst 1, 1) := by decide +kernel
theorem dX5_isEmpty_8 : decode cX5_isEmpty 8 = .ok (.goto 4, 3) := by decide +kernel
theorem dX5_isEmpty_11 : decode cX5_isEmpty 11 = .ok (.iconst 0, 1) := by decide +kernel
theorem dX5_isEmpty_12 : decode cX5_isEmpty 12 = .ok (.ireturn, 1) := by decide +kernel
theorem dX5_has_0 : decode cX5_has 0 = .ok (.iload_n 1, 1) := by decide +kernel
theorem dX5_has_1 : decode cX5_has 1 = .ok (.ifCond .lt 15, 3) := by decide +kernel
theorem dX5_has_4 : decode cX5_has 4 = .ok (.iload_n 1, 1) := by decide +kernel
theorem dX5_has_5 : decode cX5_has 5 = .ok (.aload_n 0, 1) := by decide +kernel
theorem dX5_has_6 : decode cX5_has 6 = .ok (.getfield 18, 3) := by decide +kernel
theorem dX5_has_9 : decode cX5_has 9 = .ok (.if_icmp .ge 7, 3) := by decide +kernel
theorem dX5_has_12 : decode cX5_has 12 = .ok (.iconst 1, 1) := by decide +kernel
theorem dX5_has_13 : decode cX5_has 13 = .ok (.goto 4, 3) := by decide +kernel
theorem dX5_has_16 : decode cX5_has 16 = .ok (.iconst 0, 1) := by decide +kernel
theorem dX5_has_17 : decode cX5_has 17 = .ok (.ireturn, 1) := by decide +kernel
theorem dX5_hadCard_0 : decode cX5_hadCard 0 = .ok (.iload_n 1, 1) := by decide +kernel
theorem dX5_hadCard_1 : decode cX5_hadCard 1 = .ok (.ifCond .lt 15, 3) := by decide +kernel
theorem dX5_hadCard_4 : decode cX5_hadCard 4 = .ok (.iload_n 1, 1) := by decide +kernel
theorem dX5_hadCard_5 : decode cX5_hadCard 5 = .ok (.aload_n 0, 1) := by decide +kernel
theorem dX5_hadCard_6 : decode cX5_hadCard 6 = .ok (.getfield 28, 3) := by decide +kernel
theorem dX5_hadCard_9 : decode cX5_hadCard 9 = .ok (.if_icmp .ge 7, 3) := by decide +kernel
theorem dX5_hadCard_12 : decode cX5_hadCard 12 = .ok (.iconst 1, 1) := by decide +kernel
theorem dX5_hadCard_13 : decode cX5_hadCard 13 = .ok (.goto 4, 3) := by decide +kernel
theorem dX5_hadCard_16 : decode cX5_hadCard 16 = .ok (.iconst 0, 1) := by decide +kernel
theorem dX5_hadCard_17 : decode cX5_hadCard 17 = .ok (.ireturn, 1) := by decide +kernel
theorem dX5_reasonOf_0 : decode cX5_reasonOf 0 = .ok (.aload_n 0, 1) := by decide +kernel
theorem dX5_reasonOf_1 : decode cX5_reasonOf 1 = .ok (.iload_n 1, 1) := by decide +kernel
theorem dX5_reasonOf_2 : decode cX5_reasonOf 2 = .ok (.invokevirtual 34, 3) := by decide +kernel
theorem dX5_reasonOf_5 : decode cX5_reasonOf 5 = .ok (.ifCond .eq 12, 3) := by decide +kernel
theorem dX5_reasonOf_8 : decode cX5_reasonOf 8 = .ok (.aload_n 0, 1) := by decide +kernel
theorem dX5_reasonOf_9 : decode cX5_reasonOf 9 = .ok (.getfield 15, 3) := by decide +kernel
theorem dX5_reasonOf_12 : decode cX5_reasonOf 12 = .ok (.iload_n 1, 1) := by decide +kernel
theorem dX5_reasonOf_13 : decode cX5_reasonOf 13 = .ok (.iaload, 1) := by decide +kernel
theorem dX5_reasonOf_14 : decode cX5_reasonOf 14 = .ok (.goto 5, 3) := by decide +kernel
theorem dX5_reasonOf_17 : decode cX5_reasonOf 17 = .ok (.ldc 38, 2) := by decide +kernel
theorem dX5_reasonOf_19 : decode cX5_reasonOf 19 = .ok (.ireturn, 1) := by decide +kernel
theorem dX5_judge_0 : decode cX5_judge 0 = .ok (.aload_n 0, 1) := by decide +kernel
theorem dX5_judge_1 : decode cX5_judge 1 = .ok (.iload_n 1, 1) := by decide +kernel
theorem dX5_judge_2 : decode cX5_judge 2 = .ok (.invokevirtual 34, 3) := by decide +kernel
theorem dX5_judge_5 : decode cX5_judge 5 = .ok (.ifCond .eq 10, 3) := by decide +kernel
theorem dX5_judge_8 : decode cX5_judge 8 = .ok (.aload_n 0, 1) := by decide +kernel
theorem dX5_judge_9 : decode cX5_judge 9 = .ok (.getfield 15, 3) := by decide +kernel
theorem dX5_judge_12 : decode cX5_judge 12 = .ok (.iload_n 1, 1) := by decide +kernel
theorem dX5_judge_13 : decode cX5_judge 13 = .ok (.iload_n 2, 1) := by decide +kernel
theorem dX5_judge_14 : decode cX5_judge 14 = .ok (.iastore, 1) := by decide +kernel
theorem dX5_judge_15 : decode cX5_judge 15 = .ok (.return_, 1) := by decide +kernel
theorem dX5_refusedCards_0 : decode cX5_refusedCards 0 = .ok (.iconst 0, 1) := by decide +kernel
theorem dX5_refusedCards_1 : decode cX5_refusedCards 1 = .ok (.istore_n 1, 1) := by decide +kernel
theorem dX5_refusedCards_2 : decode cX5_refusedCards 2 = .ok (.iconst 0, 1) := by decide +kernel
theorem dX5_refusedCards_3 : decode cX5_refusedCards 3 = .ok (.istore_n 2, 1) := by decide +kernel
theorem dX5_refusedCards_4 : decode cX5_refusedCards 4 = .ok (.iload_n 2, 1) := by decide +kernel
theorem dX5_refusedCards_5 : decode cX5_refusedCards 5 = .ok (.aload_n 0, 1) := by decide +kernel
theorem dX5_refusedCards_6 : decode cX5_refusedCards 6 = .ok (.getfield 28, 3) := by decide +kernel
theorem dX5_refusedCards_9 : decode cX5_refusedCards 9 = .ok (.if_icmp .ge 25, 3) := by decide +kernel
theorem dX5_refusedCards_12 : decode cX5_refusedCards 12 = .ok (.aload_n 0, 1) := by decide +kernel
theorem dX5_refusedCards_13 : decode cX5_refusedCards 13 = .ok (.iload_n 2, 1) := by decide +kernel
theorem dX5_refusedCards_14 : decode cX5_refusedCards 14 = .ok (.invokevirtual 39, 3) := by decide +kernel
theorem dX5_refusedCards_17 : decode cX5_refusedCards 17 = .ok (.iconst 1, 1) := by decide +kernel
theorem dX5_refusedCards_18 : decode cX5_refusedCards 18 = .ok (.iconst 5, 1) := by decide +kernel
theorem dX5_refusedCards_19 : decode cX5_refusedCards 19 = .ok (.invokestatic 43, 3) := by decide +kernel
theorem dX5_refusedCards_22 : decode cX5_refusedCards 22 = .ok (.ifCond .eq 6, 3) := by decide +kernel
theorem dX5_refusedCards_25 : decode cX5_refusedCards 25 = .ok (.iinc 1 1, 3) := by decide +kernel
theorem dX5_refusedCards_28 : decode cX5_refusedCards 28 = .ok (.iinc 2 1, 3) := by decide +kernel
theorem dX5_refusedCards_31 : decode cX5_refusedCards 31 = .ok (.goto (-27), 3) := by decide +kernel
theorem dX5_refusedCards_34 : decode cX5_refusedCards 34 = .ok (.iload_n 1, 1) := by decide +kernel
theorem dX5_refusedCards_35 : decode cX5_refusedCards 35 = .ok (.ireturn, 1) := by decide +kernel
theorem dX5_number_0 : decode cX5_number 0 = .ok (.aload_n 0, 1) := by decide +kernel
theorem dX5_number_1 : decode cX5_number 1 = .ok (.iload_n 1, 1) := by decide +kernel
theorem dX5_number_2 : decode cX5_number 2 = .ok (.invokevirtual 47, 3) := by decide +kernel
theorem dX5_number_5 : decode cX5_number 5 = .ok (.ifCond .eq 27, 3) := by decide +kernel
theorem dX5_number_8 : decode cX5_number 8 = .ok (.iload_n 2, 1) := by decide +kernel
theorem dX5_number_9 : decode cX5_number 9 = .ok (.iconst 0, 1) := by decide +kernel
theorem dX5_number_10 : decode cX5_number 10 = .ok (.bipush 9, 2) := by decide +kernel
theorem dX5_number_12 : decode cX5_number 12 = .ok (.invokestatic 43, 3) := by decide +kernel
theorem dX5_number_15 : decode cX5_number 15 = .ok (.ifCond .eq 17, 3) := by decide +kernel
theorem dX5_number_18 : decode cX5_number 18 = .ok (.aload_n 0, 1) := by decide +kernel
theorem dX5_number_19 : decode cX5_number 19 = .ok (.getfield 9, 3) := by decide +kernel
theorem dX5_number_22 : decode cX5_number 22 = .ok (.iload_n 1, 1) := by decide +kernel
theorem dX5_number_23 : decode cX5_number 23 = .ok (.bipush 10, 2) := by decide +kernel
theorem dX5_number_25 : decode cX5_number 25 = .ok (.imul, 1) := by decide +kernel
theorem dX5_number_26 : decode cX5_number 26 = .ok (.iload_n 2, 1) := by decide +kernel
theorem dX5_number_27 : decode cX5_number 27 = .ok (.iadd, 1) := by decide +kernel
theorem dX5_number_28 : decode cX5_number 28 = .ok (.iaload, 1) := by decide +kernel
theorem dX5_number_29 : decode cX5_number 29 = .ok (.goto 4, 3) := by decide +kernel
theorem dX5_number_32 : decode cX5_number 32 = .ok (.iconst 0, 1) := by decide +kernel
theorem dX5_number_33 : decode cX5_number 33 = .ok (.ireturn, 1) := by decide +kernel
theorem dX5_lastLine_0 : decode cX5_lastLine 0 = .ok (.aload_n 0, 1) := by decide +kernel
theorem dX5_lastLine_1 : decode cX5_lastLine 1 = .ok (.aload_n 0, 1) := by decide +kernel
theorem dX5_lastLine_2 : decode cX5_lastLine 2 = .ok (.getfield 18, 3) := by decide +kernel
theorem dX5_lastLine_5 : decode cX5_lastLine 5 = .ok (.iconst 1, 1) := by decide +kernel
theorem dX5_lastLine_6 : decode cX5_lastLine 6 = .ok (.isub, 1) := by decide +kernel
theorem dX5_lastLine_7 : decode cX5_lastLine 7 = .ok (.iload_n 1, 1) := by decide +kernel
theorem dX5_lastLine_8 : decode cX5_lastLine 8 = .ok (.invokevirtual 50, 3) := by decide +kernel
theorem dX5_lastLine_11 : decode cX5_lastLine 11 = .ok (.ireturn, 1) := by decide +kernel
theorem dX5_sumOfWorkers_0 : decode cX5_sumOfWorkers 0 = .ok (.iconst 0, 1) := by decide +kernel
theorem dX5_sumOfWorkers_1 : decode cX5_sumOfWorkers 1 = .ok (.istore_n 1, 1) := by decide +kernel
theorem dX5_sumOfWorkers_2 : decode cX5_sumOfWorkers 2 = .ok (.iconst 0, 1) := by decide +kernel
theorem dX5_sumOfWorkers_3 : decode cX5_sumOfWorkers 3 = .ok (.istore_n 2, 1) := by decide +kernel
theorem dX5_sumOfWorkers_4 : decode cX5_sumOfWorkers 4 = .ok (.iload_n 2, 1) := by decide +kernel
theorem dX5_sumOfWorkers_5 : decode cX5_sumOfWorkers 5 = .ok (.aload_n 0, 1) := by decide +kernel
theorem dX5_sumOfWorkers_6 : decode cX5_sumOfWorkers 6 = .ok (.getfield 18, 3) := by decide +kernel
theorem dX5_sumOfWorkers_9 : decode cX5_sumOfWorkers 9 = .ok (.if_icmp .ge 26, 3) := by decide +kernel
theorem dX5_sumOfWorkers_12 : decode cX5_sumOfWorkers 12 = .ok (.aload_n 0, 1) := by decide +kernel
theorem dX5_sumOfWorkers_13 : decode cX5_sumOfWorkers 13 = .ok (.iload_n 2, 1) := by decide +kernel
theorem dX5_sumOfWorkers_14 : decode cX5_sumOfWorkers 14 = .ok (.invokevirtual 53, 3) := by decide +kernel
theorem dX5_sumOfWorkers_17 : decode cX5_sumOfWorkers 17 = .ok (.ifCond .eq 12, 3) := by decide +kernel
theorem dX5_sumOfWorkers_20 : decode cX5_sumOfWorkers 20 = .ok (.iload_n 1, 1) := by decide +kernel
theorem dX5_sumOfWorkers_21 : decode cX5_sumOfWorkers 21 = .ok (.aload_n 0, 1) := by decide +kernel
theorem dX5_sumOfWorkers_22 : decode cX5_sumOfWorkers 22 = .ok (.iload_n 2, 1) := by decide +kernel
theorem dX5_sumOfWorkers_23 : decode cX5_sumOfWorkers 23 = .ok (.iconst 3, 1) := by decide +kernel
theorem dX5_sumOfWorkers_24 : decode cX5_sumOfWorkers 24 = .ok (.invokevirtual 50, 3) := by decide +kernel
theorem dX5_sumOfWorkers_27 : decode cX5_sumOfWorkers 27 = .ok (.iadd, 1) := by decide +kernel
theorem dX5_sumOfWorkers_28 : decode cX5_sumOfWorkers 28 = .ok (.istore_n 1, 1) := by decide +kernel
theorem dX5_sumOfWorkers_29 : decode cX5_sumOfWorkers 29 = .ok (.iinc 2 1, 3) := by decide +kernel
theorem dX5_sumOfWorkers_32 : decode cX5_sumOfWorkers 32 = .ok (.goto (-28), 3) := by decide +kernel
theorem dX5_sumOfWorkers_35 : decode cX5_sumOfWorkers 35 = .ok (.iload_n 1, 1) := by decide +kernel
theorem dX5_sumOfWorkers_36 : decode cX5_sumOfWorkers 36 = .ok (.ireturn, 1) := by decide +kernel
theorem dX5_isCard_0 : decode cX5_isCard 0 = .ok (.aload_n 0, 1) := by decide +kernel
theorem dX5_isCard_1 : decode cX5_isCard 1 = .ok (.iload_n 1, 1) := by decide +kernel
theorem dX5_isCard_2 : decode cX5_isCard 2 = .ok (.invokevirtual 47, 3) := by decide +kernel
theorem dX5_isCard_5 : decode cX5_isCard 5 = .ok (.ifCond .eq 16, 3) := by decide +kernel
theorem dX5_isCard_8 : decode cX5_isCard 8 = .ok (.aload_n 0, 1) := by decide +kernel
theorem dX5_isCard_9 : decode cX5_isCard 9 = .ok (.iload_n 1, 1) := by decide +kernel
theorem dX5_isCard_10 : decode cX5_isCard 10 = .ok (.iconst 0, 1) := by decide +kernel
theorem dX5_isCard_11 : decode cX5_isCard 11 = .ok (.invokevirtual 50, 3) := by decide +kernel
theorem dX5_isCard_14 : decode cX5_isCard 14 = .ok (.ifCond .ne 7, 3) := by decide +kernel
theorem dX5_isCard_17 : decode cX5_isCard 17 = .ok (.iconst 1, 1) := by decide +kernel
theorem dX5_isCard_18 : decode cX5_isCard 18 = .ok (.goto 4, 3) := by decide +kernel
theorem dX5_isCard_21 : decode cX5_isCard 21 = .ok (.iconst 0, 1) := by decide +kernel
theorem dX5_isCard_22 : decode cX5_isCard 22 = .ok (.ireturn, 1) := by decide +kernel
theorem dX5_print_0 : decode cX5_print 0 = .ok (.aload_n 0, 1) := by decide +kernel
theorem dX5_print_1 : decode cX5_print 1 = .ok (.getfield 18, 3) := by decide +kernel
theorem dX5_print_4 : decode cX5_print 4 = .ok (.sipush 161, 3) := by decide +kernel
theorem dX5_print_7 : decode cX5_print 7 = .ok (.if_icmp .lt 4, 3) := by decide +kernel
theorem dX5_print_10 : decode cX5_print 10 = .ok (.return_, 1) := by decide +kernel
theorem dX5_print_11 : decode cX5_print 11 = .ok (.aload_n 0, 1) := by decide +kernel
theorem dX5_print_12 : decode cX5_print 12 = .ok (.getfield 18, 3) := by decide +kernel
theorem dX5_print_15 : decode cX5_print 15 = .ok (.bipush 10, 2) := by decide +kernel
theorem dX5_print_17 : decode cX5_print 17 = .ok (.imul, 1) := by decide +kernel
theorem dX5_print_18 : decode cX5_print 18 = .ok (.istore 4, 2) := by decide +kernel
theorem dX5_print_20 : decode cX5_print 20 = .ok (.aload_n 0, 1) := by decide +kernel
theorem dX5_print_21 : decode cX5_print 21 = .ok (.getfield 9, 3) := by decide +kernel
theorem dX5_print_24 : decode cX5_print 24 = .ok (.iload 4, 2) := by decide +kernel
theorem dX5_print_26 : decode cX5_print 26 = .ok (.iconst 0, 1) := by decide +kernel
theorem dX5_print_27 : decode cX5_print 27 = .ok (.iadd, 1) := by decide +kernel
theorem dX5_print_28 : decode cX5_print 28 = .ok (.iload_n 1, 1) := by decide +kernel
theorem dX5_print_29 : decode cX5_print 29 = .ok (.iastore, 1) := by decide +kernel
theorem dX5_print_30 : decode cX5_print 30 = .ok (.aload_n 0, 1) := by decide +kernel
theorem dX5_print_31 : decode cX5_print 31 = .ok (.getfield 9, 3) := by decide +kernel
theorem dX5_print_34 : decode cX5_print 34 = .ok (.iload 4, 2) := by decide +kernel
theorem dX5_print_36 : decode cX5_print 36 = .ok (.iconst 1, 1) := by decide +kernel
theorem dX5_print_37 : decode cX5_print 37 = .ok (.iadd, 1) := by decide +kernel
theorem dX5_print_38 : decode cX5_print 38 = .ok (.iload_n 1, 1) := by decide +kernel
theorem dX5_print_39 : decode cX5_print 39 = .ok (.iconst 3, 1) := by decide +kernel
theorem dX5_print_40 : decode cX5_print 40 = .ok (.if_icmp .gt 10, 3) := by decide +kernel
theorem dX5_print_43 : decode cX5_print 43 = .ok (.aload_n 2, 1) := by decide +kernel
theorem dX5_print_44 : decode cX5_print 44 = .ok (.getfield 56, 3) := by decide +kernel
theorem dX5_print_47 : decode cX5_print 47 = .ok (.goto 5, 3) := by decide +kernel
theorem dX5_print_50 : decode cX5_print 50 = .ok (.ldc 61, 2) := by decide +kernel
theorem dX5_print_52 : decode cX5_print 52 = .ok (.iastore, 1) := by decide +kernel
theorem dX5_print_53 : decode cX5_print 53 = .ok (.aload_n 0, 1) := by decide +kernel
theorem dX5_print_54 : decode cX5_print 54 = .ok (.getfield 9, 3) := by decide +kernel
theorem dX5_print_57 : decode cX5_print 57 = .ok (.iload 4, 2) := by decide +kernel
theorem dX5_print_59 : decode cX5_print 59 = .ok (.iconst 2, 1) := by decide +kernel
theorem dX5_print_60 : decode cX5_print 60 = .ok (.iadd, 1) := by decide +kernel
theorem dX5_print_61 : decode cX5_print 61 = .ok (.iload_n 1, 1) := by decide +kernel
theorem dX5_print_62 : decode cX5_print 62 = .ok (.iconst 2, 1) := by decide +kernel
theorem dX5_print_63 : decode cX5_print 63 = .ok (.if_icmp .gt 10, 3) := by decide +kernel
theorem dX5_print_66 : decode cX5_print 66 = .ok (.aload_n 2, 1) := by decide +kernel
theorem dX5_print_67 : decode cX5_print 67 = .ok (.getfield 62, 3) := by decide +kernel
theorem dX5_print_70 : decode cX5_print 70 = .ok (.goto 5, 3) := by decide +kernel
theorem dX5_print_73 : decode cX5_print 73 = .ok (.ldc 61, 2) := by decide +kernel
theorem dX5_print_75 : decode cX5_print 75 = .ok (.iastore, 1) := by decide +kernel
theorem dX5_print_76 : decode cX5_print 76 = .ok (.aload_n 0, 1) := by decide +kernel
theorem dX5_print_77 : decode cX5_print 77 = .ok (.getfield 9, 3) := by decide +kernel
theorem dX5_print_80 : decode cX5_print 80 = .ok (.iload 4, 2) := by decide +kernel
theorem dX5_print_82 : decode cX5_print 82 = .ok (.iconst 3, 1) := by decide +kernel
theorem dX5_print_83 : decode cX5_print 83 = .ok (.iadd, 1) := by decide +kernel
theorem dX5_print_84 : decode cX5_print 84 = .ok (.iload_n 1, 1) := by decide +kernel
theorem dX5_print_85 : decode cX5_print 85 = .ok (.iconst 1, 1) := by decide +kernel
theorem dX5_print_86 : decode cX5_print 86 = .ok (.if_icmp .gt 10, 3) := by decide +kernel
theorem dX5_print_89 : decode cX5_print 89 = .ok (.aload_n 2, 1) := by decide +kernel
theorem dX5_print_90 : decode cX5_print 90 = .ok (.getfield 65, 3) := by decide +kernel
theorem dX5_print_93 : decode cX5_print 93 = .ok (.goto 5, 3) := by decide +kernel
theorem dX5_print_96 : decode cX5_print 96 = .ok (.ldc 61, 2) := by decide +kernel
theorem dX5_print_98 : decode cX5_print 98 = .ok (.iastore, 1) := by decide +kernel
theorem dX5_print_99 : decode cX5_print 99 = .ok (.aload_n 0, 1) := by decide +kernel
theorem dX5_print_100 : decode cX5_print 100 = .ok (.getfield 9, 3) := by decide +kernel
theorem dX5_print_103 : decode cX5_print 103 = .ok (.iload 4, 2) := by decide +kernel
theorem dX5_print_105 : decode cX5_print 105 = .ok (.iconst 4, 1) := by decide +kernel
theorem dX5_print_106 : decode cX5_print 106 = .ok (.iadd, 1) := by decide +kernel
theorem dX5_print_107 : decode cX5_print 107 = .ok (.aload_n 2, 1) := by decide +kernel
theorem dX5_print_108 : decode cX5_print 108 = .ok (.getfield 68, 3) := by decide +kernel
theorem dX5_print_111 : decode cX5_print 111 = .ok (.iastore, 1) := by decide +kernel
theorem dX5_print_112 : decode cX5_print 112 = .ok (.aload_n 0, 1) := by decide +kernel
theorem dX5_print_113 : decode cX5_print 113 = .ok (.getfield 9, 3) := by decide +kernel
theorem dX5_print_116 : decode cX5_print 116 = .ok (.iload 4, 2) := by decide +kernel
theorem dX5_print_118 : decode cX5_print 118 = .ok (.iconst 5, 1) := by decide +kernel
theorem dX5_print_119 : decode cX5_print 119 = .ok (.iadd, 1) := by decide +kernel
theorem dX5_print_120 : decode cX5_print 120 = .ok (.aload_n 2, 1) := by decide +kernel
theorem dX5_print_121 : decode cX5_print 121 = .ok (.getfield 71, 3) := by decide +kernel
theorem dX5_print_124 : decode cX5_print 124 = .ok (.iastore, 1) := by decide +kernel
theorem dX5_print_125 : decode cX5_print 125 = .ok (.aload_n 0, 1) := by decide +kernel
theorem dX5_print_126 : decode cX5_print 126 = .ok (.getfield 9, 3) := by decide +kernel
theorem dX5_print_129 : decode cX5_print 129 = .ok (.iload 4, 2) := by decide +kernel
theorem dX5_print_131 : decode cX5_print 131 = .ok (.bipush 6, 2) := by decide +kernel
theorem dX5_print_133 : decode cX5_print 133 = .ok (.iadd, 1) := by decide +kernel
theorem dX5_print_134 : decode cX5_print 134 = .ok (.aload_n 2, 1) := by decide +kernel
theorem dX5_print_135 : decode cX5_print 135 = .ok (.getfield 74, 3) := by decide +kernel
theorem dX5_print_138 : decode cX5_print 138 = .ok (.iastore, 1) := by decide +kernel
theorem dX5_print_139 : decode cX5_print 139 = .ok (.aload_n 0, 1) := by decide +kernel
theorem dX5_print_140 : decode cX5_print 140 = .ok (.getfield 9, 3) := by decide +kernel
theorem dX5_print_143 : decode cX5_print 143 = .ok (.iload 4, 2) := by decide +kernel
theorem dX5_print_145 : decode cX5_print 145 = .ok (.bipush 7, 2) := by decide +kernel
theorem dX5_print_147 : decode cX5_print 147 = .ok (.iadd, 1) := by decide +kernel
theorem dX5_print_148 : decode cX5_print 148 = .ok (.aload_n 2, 1) := by decide +kernel
theorem dX5_print_149 : decode cX5_print 149 = .ok (.getfield 77, 3) := by decide +kernel
theorem dX5_print_152 : decode cX5_print 152 = .ok (.iastore, 1) := by decide +kernel
theorem dX5_print_153 : decode cX5_print 153 = .ok (.aload_n 0, 1) := by decide +kernel
theorem dX5_print_154 : decode cX5_print 154 = .ok (.getfield 9, 3) := by decide +kernel
theorem dX5_print_157 : decode cX5_print 157 = .ok (.iload 4, 2) := by decide +kernel
theorem dX5_print_159 : decode cX5_print 159 = .ok (.bipush 8, 2) := by decide +kernel
theorem dX5_print_161 : decode cX5_print 161 = .ok (.iadd, 1) := by decide +kernel
theorem dX5_print_162 : decode cX5_print 162 = .ok (.iload_n 3, 1) := by decide +kernel
theorem dX5_print_163 : decode cX5_print 163 = .ok (.iastore, 1) := by decide +kernel
theorem dX5_print_164 : decode cX5_print 164 = .ok (.aload_n 0, 1) := by decide +kernel
theorem dX5_print_165 : decode cX5_print 165 = .ok (.getfield 9, 3) := by decide +kernel
theorem dX5_print_168 : decode cX5_print 168 = .ok (.iload 4, 2) := by decide +kernel
theorem dX5_print_170 : decode cX5_print 170 = .ok (.bipush 9, 2) := by decide +kernel
theorem dX5_print_172 : decode cX5_print 172 = .ok (.iadd, 1) := by decide +kernel
theorem dX5_print_173 : decode cX5_print 173 = .ok (.aload_n 2, 1) := by decide +kernel
theorem dX5_print_174 : decode cX5_print 174 = .ok (.getfield 80, 3) := by decide +kernel
theorem dX5_print_177 : decode cX5_print 177 = .ok (.iastore, 1) := by decide +kernel
theorem dX5_print_178 : decode cX5_print 178 = .ok (.aload_n 0, 1) := by decide +kernel
theorem dX5_print_179 : decode cX5_print 179 = .ok (.dup, 1) := by decide +kernel
theorem dX5_print_180 : decode cX5_print 180 = .ok (.getfield 18, 3) := by decide +kernel
theorem dX5_print_183 : decode cX5_print 183 = .ok (.iconst 1, 1) := by decide +kernel
theorem dX5_print_184 : decode cX5_print 184 = .ok (.iadd, 1) := by decide +kernel
theorem dX5_print_185 : decode cX5_print 185 = .ok (.putfield 18, 3) := by decide +kernel
theorem dX5_print_188 : decode cX5_print 188 = .ok (.return_, 1) := by decide +kernel
theorem dX5_readCard_0 : decode cX5_readCard 0 = .ok (.aload_n 2, 1) := by decide +kernel
theorem dX5_readCard_1 : decode cX5_readCard 1 = .ok (.aload_n 0, 1) := by decide +kernel
theorem dX5_readCard_2 : decode cX5_readCard 2 = .ok (.iload_n 1, 1) := by decide +kernel
theorem dX5_readCard_3 : decode cX5_readCard 3 = .ok (.iconst 1, 1) := by decide +kernel
theorem dX5_readCard_4 : decode cX5_readCard 4 = .ok (.invokevirtual 50, 3) := by decide +kernel
theorem dX5_readCard_7 : decode cX5_readCard 7 = .ok (.putfield 56, 3) := by decide +kernel
theorem dX5_readCard_10 : decode cX5_readCard 10 = .ok (.aload_n 2, 1) := by decide +kernel
theorem dX5_readCard_11 : decode cX5_readCard 11 = .ok (.aload_n 0, 1) := by decide +kernel
theorem dX5_readCard_12 : decode cX5_readCard 12 = .ok (.iload_n 1, 1) := by decide +kernel
theorem dX5_readCard_13 : decode cX5_readCard 13 = .ok (.iconst 2, 1) := by decide +kernel
theorem dX5_readCard_14 : decode cX5_readCard 14 = .ok (.invokevirtual 50, 3) := by decide +kernel
theorem dX5_readCard_17 : decode cX5_readCard 17 = .ok (.putfield 62, 3) := by decide +kernel
theorem dX5_readCard_20 : decode cX5_readCard 20 = .ok (.aload_n 2, 1) := by decide +kernel
theorem dX5_readCard_21 : decode cX5_readCard 21 = .ok (.aload_n 0, 1) := by decide +kernel
theorem dX5_readCard_22 : decode cX5_readCard 22 = .ok (.iload_n 1, 1) := by decide +kernel
theorem dX5_readCard_23 : decode cX5_readCard 23 = .ok (.iconst 3, 1) := by decide +kernel
theorem dX5_readCard_24 : decode cX5_readCard 24 = .ok (.invokevirtual 50, 3) := by decide +kernel
theorem dX5_readCard_27 : decode cX5_readCard 27 = .ok (.putfield 65, 3) := by decide +kernel
theorem dX5_readCard_30 : decode cX5_readCard 30 = .ok (.aload_n 2, 1) := by decide +kernel
theorem dX5_readCard_31 : decode cX5_readCard 31 = .ok (.aload_n 0, 1) := by decide +kernel
theorem dX5_readCard_32 : decode cX5_readCard 32 = .ok (.iload_n 1, 1) := by decide +kernel
theorem dX5_readCard_33 : decode cX5_readCard 33 = .ok (.bipush 9, 2) := by decide +kernel
theorem dX5_readCard_35 : decode cX5_readCard 35 = .ok (.invokevirtual 50, 3) := by decide +kernel
theorem dX5_readCard_38 : decode cX5_readCard 38 = .ok (.putfield 80, 3) := by decide +kernel
theorem dX5_readCard_41 : decode cX5_readCard 41 = .ok (.aload_n 2, 1) := by decide +kernel
theorem dX5_readCard_42 : decode cX5_readCard 42 = .ok (.aload_n 0, 1) := by decide +kernel
theorem dX5_readCard_43 : decode cX5_readCard 43 = .ok (.iload_n 1, 1) := by decide +kernel
theorem dX5_readCard_44 : decode cX5_readCard 44 = .ok (.iconst 4, 1) := by decide +kernel
theorem dX5_readCard_45 : decode cX5_readCard 45 = .ok (.invokevirtual 50, 3) := by decide +kernel
theorem dX5_readCard_48 : decode cX5_readCard 48 = .ok (.putfield 68, 3) := by decide +kernel
theorem dX5_readCard_51 : decode cX5_readCard 51 = .ok (.aload_n 2, 1) := by decide +kernel
theorem dX5_readCard_52 : decode cX5_readCard 52 = .ok (.aload_n 0, 1) := by decide +kernel
theorem dX5_readCard_53 : decode cX5_readCard 53 = .ok (.iload_n 1, 1) := by decide +kernel
theorem dX5_readCard_54 : decode cX5_readCard 54 = .ok (.iconst 5, 1) := by decide +kernel
theorem dX5_readCard_55 : decode cX5_readCard 55 = .ok (.invokevirtual 50, 3) := by decide +kernel
theorem dX5_readCard_58 : decode cX5_readCard 58 = .ok (.putfield 71, 3) := by decide +kernel
theorem dX5_readCard_61 : decode cX5_readCard 61 = .ok (.aload_n 2, 1) := by decide +kernel
theorem dX5_readCard_62 : decode cX5_readCard 62 = .ok (.aload_n 0, 1) := by decide +kernel
theorem dX5_readCard_63 : decode cX5_readCard 63 = .ok (.iload_n 1, 1) := by decide +kernel
theorem dX5_readCard_64 : decode cX5_readCard 64 = .ok (.bipush 6, 2) := by decide +kernel
theorem dX5_readCard_66 : decode cX5_readCard 66 = .ok (.invokevirtual 50, 3) := by decide +kernel
theorem dX5_readCard_69 : decode cX5_readCard 69 = .ok (.putfield 74, 3) := by decide +kernel
theorem dX5_readCard_72 : decode cX5_readCard 72 = .ok (.aload_n 2, 1) := by decide +kernel
theorem dX5_readCard_73 : decode cX5_readCard 73 = .ok (.aload_n 0, 1) := by decide +kernel
theorem dX5_readCard_74 : decode cX5_readCard 74 = .ok (.iload_n 1, 1) := by decide +kernel
theorem dX5_readCard_75 : decode cX5_readCard 75 = .ok (.bipush 7, 2) := by decide +kernel
theorem dX5_readCard_77 : decode cX5_readCard 77 = .ok (.invokevirtual 50, 3) := by decide +kernel
theorem dX5_readCard_80 : decode cX5_readCard 80 = .ok (.putfield 77, 3) := by decide +kernel
theorem dX5_readCard_83 : decode cX5_readCard 83 = .ok (.return_, 1) := by decide +kernel
theorem dX5_copyFrom_0 : decode cX5_copyFrom 0 = .ok (.aload_n 0, 1) := by decide +kernel
theorem dX5_copyFrom_1 : decode cX5_copyFrom 1 = .ok (.aload_n 1, 1) := by decide +kernel
theorem dX5_copyFrom_2 : decode cX5_copyFrom 2 = .ok (.getfield 18, 3) := by decide +kernel
theorem dX5_copyFrom_5 : decode cX5_copyFrom 5 = .ok (.putfield 18, 3) := by decide +kernel
theorem dX5_copyFrom_8 : decode cX5_copyFrom 8 = .ok (.aload_n 0, 1) := by decide +kernel
theorem dX5_copyFrom_9 : decode cX5_copyFrom 9 = .ok (.aload_n 1, 1) := by decide +kernel
theorem dX5_copyFrom_10 : decode cX5_copyFrom 10 = .ok (.getfield 28, 3) := by decide +kernel
theorem dX5_copyFrom_13 : decode cX5_copyFrom 13 = .ok (.putfield 28, 3) := by decide +kernel
theorem dX5_copyFrom_16 : decode cX5_copyFrom 16 = .ok (.aload_n 0, 1) := by decide +kernel
theorem dX5_copyFrom_17 : decode cX5_copyFrom 17 = .ok (.aload_n 1, 1) := by decide +kernel
theorem dX5_copyFrom_18 : decode cX5_copyFrom 18 = .ok (.getfield 31, 3) := by decide +kernel
theorem dX5_copyFrom_21 : decode cX5_copyFrom 21 = .ok (.putfield 31, 3) := by decide +kernel
theorem dX5_copyFrom_24 : decode cX5_copyFrom 24 = .ok (.aload_n 1, 1) := by decide +kernel
theorem dX5_copyFrom_25 : decode cX5_copyFrom 25 = .ok (.getfield 9, 3) := by decide +kernel
theorem dX5_copyFrom_28 : decode cX5_copyFrom 28 = .ok (.iconst 0, 1) := by decide +kernel
theorem dX5_copyFrom_29 : decode cX5_copyFrom 29 = .ok (.aload_n 0, 1) := by decide +kernel
theorem dX5_copyFrom_30 : decode cX5_copyFrom 30 = .ok (.getfield 9, 3) := by decide +kernel
theorem dX5_copyFrom_33 : decode cX5_copyFrom 33 = .ok (.iconst 0, 1) := by decide +kernel
theorem dX5_copyFrom_34 : decode cX5_copyFrom 34 = .ok (.aload_n 0, 1) := by decide +kernel
theorem dX5_copyFrom_35 : decode cX5_copyFrom 35 = .ok (.getfield 18, 3) := by decide +kernel
theorem dX5_copyFrom_38 : decode cX5_copyFrom 38 = .ok (.bipush 10, 2) := by decide +kernel
theorem dX5_copyFrom_40 : decode cX5_copyFrom 40 = .ok (.imul, 1) := by decide +kernel
theorem dX5_copyFrom_41 : decode cX5_copyFrom 41 = .ok (.invokestatic 83, 3) := by decide +kernel
theorem dX5_copyFrom_44 : decode cX5_copyFrom 44 = .ok (.aload_n 1, 1) := by decide +kernel
theorem dX5_copyFrom_45 : decode cX5_copyFrom 45 = .ok (.getfield 15, 3) := by decide +kernel
theorem dX5_copyFrom_48 : decode cX5_copyFrom 48 = .ok (.iconst 0, 1) := by decide +kernel
theorem dX5_copyFrom_49 : decode cX5_copyFrom 49 = .ok (.aload_n 0, 1) := by decide +kernel
theorem dX5_copyFrom_50 : decode cX5_copyFrom 50 = .ok (.getfield 15, 3) := by decide +kernel
theorem dX5_copyFrom_53 : decode cX5_copyFrom 53 = .ok (.iconst 0, 1) := by decide +kernel
theorem dX5_copyFrom_54 : decode cX5_copyFrom 54 = .ok (.aload_n 0, 1) := by decide +kernel
theorem dX5_copyFrom_55 : decode cX5_copyFrom 55 = .ok (.getfield 28, 3) := by decide +kernel
theorem dX5_copyFrom_58 : decode cX5_copyFrom 58 = .ok (.invokestatic 83, 3) := by decide +kernel
theorem dX5_copyFrom_61 : decode cX5_copyFrom 61 = .ok (.return_, 1) := by decide +kernel
theorem dX6_init_0 : decode cX6_init 0 = .ok (.aload_n 0, 1) := by decide +kernel
theorem dX6_init_1 : decode cX6_init 1 = .ok (.invokespecial 3, 3) := by decide +kernel
theorem dX6_init_4 : decode cX6_init 4 = .ok (.aload_n 0, 1) := by decide +kernel
theorem dX6_init_5 : decode cX6_init 5 = .ok (.bipush 40, 2) := by decide +kernel
theorem dX6_init_7 : decode cX6_init 7 = .ok (.anewarray 9, 3) := by decide +kernel
theorem dX6_init_10 : decode cX6_init 10 = .ok (.putfield 11, 3) := by decide +kernel
theorem dX6_init_13 : decode cX6_init 13 = .ok (.aload_n 0, 1) := by decide +kernel
theorem dX6_init_14 : decode cX6_init 14 = .ok (.new 9, 3) := by decide +kernel
theorem dX6_init_17 : decode cX6_init 17 = .ok (.dup, 1) := by decide +kernel
theorem dX6_init_18 : decode cX6_init 18 = .ok (.invokespecial 17, 3) := by decide +kernel
theorem dX6_init_21 : decode cX6_init 21 = .ok (.putfield 18, 3) := by decide +kernel
theorem dX6_init_24 : decode cX6_init 24 = .ok (.aload_n 0, 1) := by decide +kernel
theorem dX6_init_25 : decode cX6_init 25 = .ok (.new 9, 3) := by decide +kernel
theorem dX6_init_28 : decode cX6_init 28 = .ok (.dup, 1) := by decide +kernel
theorem dX6_init_29 : decode cX6_init 29 = .ok (.invokespecial 17, 3) := by decide +kernel
theorem dX6_init_32 : decode cX6_init 32 = .ok (.putfield 22, 3) := by decide +kernel
theorem dX6_init_35 : decode cX6_init 35 = .ok (.iconst 0, 1) := by decide +kernel
theorem dX6_init_36 : decode cX6_init 36 = .ok (.istore_n 1, 1) := by decide +kernel
theorem dX6_init_37 : decode cX6_init 37 = .ok (.iload_n 1, 1) := by decide +kernel
theorem dX6_init_38 : decode cX6_init 38 = .ok (.bipush 40, 2) := by decide +kernel
theorem dX6_init_40 : decode cX6_init 40 = .ok (.if_icmp .ge 22, 3) := by decide +kernel
theorem dX6_init_43 : decode cX6_init 43 = .ok (.aload_n 0, 1) := by decide +kernel
theorem dX6_init_44 : decode cX6_init 44 = .ok (.getfield 11, 3) := by decide +kernel
theorem dX6_init_47 : decode cX6_init 47 = .ok (.iload_n 1, 1) := by decide +kernel
theorem dX6_init_48 : decode cX6_init 48 = .ok (.new 9, 3) := by decide +kernel
theorem dX6_init_51 : decode cX6_init 51 = .ok (.dup, 1) := by decide +kernel
theorem dX6_init_52 : decode cX6_init 52 = .ok (.invokespecial 17, 3) := by decide +kernel
theorem dX6_init_55 : decode cX6_init 55 = .ok (.aastore, 1) := by decide +kernel
theorem dX6_init_56 : decode cX6_init 56 = .ok (.iinc 1 1, 3) := by decide +kernel
theorem dX6_init_59 : decode cX6_init 59 = .ok (.goto (-22), 3) := by decide +kernel
theorem dX6_init_62 : decode cX6_init 62 = .ok (.return_, 1) := by decide +kernel
theorem dX6_size_0 : decode cX6_size 0 = .ok (.aload_n 0, 1) := by decide +kernel
theorem dX6_size_1 : decode cX6_size 1 = .ok (.getfield 25, 3) := by decide +kernel
theorem dX6_size_4 : decode cX6_size 4 = .ok (.ireturn, 1) := by decide +kernel
theorem dX6_at_0 : decode cX6_at 0 = .ok (.iload_n 1, 1) := by decide +kernel
theorem dX6_at_1 : decode cX6_at 1 = .ok (.ifCond .lt 18, 3) := by decide +kernel
theorem dX6_at_4 : decode cX6_at 4 = .ok (.iload_n 1, 1) := by decide +kernel
theorem dX6_at_5 : decode cX6_at 5 = .ok (.bipush 40, 2) := by decide +kernel
theorem dX6_at_7 : decode cX6_at 7 = .ok (.if_icmp .ge 12, 3) := by decide +kernel
theorem dX6_at_10 : decode cX6_at 10 = .ok (.aload_n 0, 1) := by decide +kernel
theorem dX6_at_11 : decode cX6_at 11 = .ok (.getfield 11, 3) := by decide +kernel
theorem dX6_at_14 : decode cX6_at 14 = .ok (.iload_n 1, 1) := by decide +kernel
end
section
theorem dX6_at_15 : decode cX6_at 15 = .ok (.aaload, 1) := by decide +kernel
theorem dX6_at_16 : decode cX6_at 16 = .ok (.goto 4, 3) := by decide +kernel
theorem dX6_at_19 : decode cX6_at 19 = .ok (.aconst_null, 1) := by decide +kernel
theorem dX6_at_20 : decode cX6_at 20 = .ok (.astore_n 2, 1) := by decide +kernel
theorem dX6_at_21 : decode cX6_at 21 = .ok (.aload_n 2, 1) := by decide +kernel
theorem dX6_at_22 : decode cX6_at 22 = .ok (.ifnonnull 10, 3) := by decide +kernel
theorem dX6_at_25 : decode cX6_at 25 = .ok (.aload_n 0, 1) := by decide +kernel
theorem dX6_at_26 : decode cX6_at 26 = .ok (.getfield 18, 3) := by decide +kernel
theorem dX6_at_29 : decode cX6_at 29 = .ok (.goto 4, 3) := by decide +kernel
theorem dX6_at_32 : decode cX6_at 32 = .ok (.aload_n 2, 1) := by decide +kernel
theorem dX6_at_33 : decode cX6_at 33 = .ok (.areturn, 1) := by decide +kernel
theorem dX6_reckon_0 : decode cX6_reckon 0 = .ok (.aload_n 0, 1) := by decide +kernel
theorem dX6_reckon_1 : decode cX6_reckon 1 = .ok (.iconst 0, 1) := by decide +kernel
theorem dX6_reckon_2 : decode cX6_reckon 2 = .ok (.putfield 25, 3) := by decide +kernel
theorem dX6_reckon_5 : decode cX6_reckon 5 = .ok (.iconst 0, 1) := by decide +kernel
theorem dX6_reckon_6 : decode cX6_reckon 6 = .ok (.istore_n 2, 1) := by decide +kernel
theorem dX6_reckon_7 : decode cX6_reckon 7 = .ok (.iload_n 2, 1) := by decide +kernel
theorem dX6_reckon_8 : decode cX6_reckon 8 = .ok (.aload_n 1, 1) := by decide +kernel
theorem dX6_reckon_9 : decode cX6_reckon 9 = .ok (.getfield 29, 3) := by decide +kernel
theorem dX6_reckon_12 : decode cX6_reckon 12 = .ok (.if_icmp .ge 44, 3) := by decide +kernel
theorem dX6_reckon_15 : decode cX6_reckon 15 = .ok (.aload_n 1, 1) := by decide +kernel
theorem dX6_reckon_16 : decode cX6_reckon 16 = .ok (.iload_n 2, 1) := by decide +kernel
theorem dX6_reckon_17 : decode cX6_reckon 17 = .ok (.invokevirtual 34, 3) := by decide +kernel
theorem dX6_reckon_20 : decode cX6_reckon 20 = .ok (.ifCond .eq 30, 3) := by decide +kernel
theorem dX6_reckon_23 : decode cX6_reckon 23 = .ok (.aload_n 1, 1) := by decide +kernel
theorem dX6_reckon_24 : decode cX6_reckon 24 = .ok (.iload_n 2, 1) := by decide +kernel
theorem dX6_reckon_25 : decode cX6_reckon 25 = .ok (.aload_n 0, 1) := by decide +kernel
theorem dX6_reckon_26 : decode cX6_reckon 26 = .ok (.getfield 22, 3) := by decide +kernel
theorem dX6_reckon_29 : decode cX6_reckon 29 = .ok (.invokevirtual 38, 3) := by decide +kernel
theorem dX6_reckon_32 : decode cX6_reckon 32 = .ok (.aload_n 0, 1) := by decide +kernel
theorem dX6_reckon_33 : decode cX6_reckon 33 = .ok (.aload_n 0, 1) := by decide +kernel
theorem dX6_reckon_34 : decode cX6_reckon 34 = .ok (.getfield 22, 3) := by decide +kernel
theorem dX6_reckon_37 : decode cX6_reckon 37 = .ok (.invokevirtual 42, 3) := by decide +kernel
theorem dX6_reckon_40 : decode cX6_reckon 40 = .ok (.invokevirtual 46, 3) := by decide +kernel
theorem dX6_reckon_43 : decode cX6_reckon 43 = .ok (.aload_n 0, 1) := by decide +kernel
theorem dX6_reckon_44 : decode cX6_reckon 44 = .ok (.getfield 22, 3) := by decide +kernel
theorem dX6_reckon_47 : decode cX6_reckon 47 = .ok (.invokevirtual 50, 3) := by decide +kernel
theorem dX6_reckon_50 : decode cX6_reckon 50 = .ok (.iinc 2 1, 3) := by decide +kernel
theorem dX6_reckon_53 : decode cX6_reckon 53 = .ok (.goto (-46), 3) := by decide +kernel
theorem dX6_reckon_56 : decode cX6_reckon 56 = .ok (.iconst 0, 1) := by decide +kernel
theorem dX6_reckon_57 : decode cX6_reckon 57 = .ok (.istore_n 2, 1) := by decide +kernel
theorem dX6_reckon_58 : decode cX6_reckon 58 = .ok (.iload_n 2, 1) := by decide +kernel
theorem dX6_reckon_59 : decode cX6_reckon 59 = .ok (.aload_n 0, 1) := by decide +kernel
theorem dX6_reckon_60 : decode cX6_reckon 60 = .ok (.getfield 25, 3) := by decide +kernel
theorem dX6_reckon_63 : decode cX6_reckon 63 = .ok (.if_icmp .ge 29, 3) := by decide +kernel
theorem dX6_reckon_66 : decode cX6_reckon 66 = .ok (.aload_n 0, 1) := by decide +kernel
theorem dX6_reckon_67 : decode cX6_reckon 67 = .ok (.iload_n 2, 1) := by decide +kernel
theorem dX6_reckon_68 : decode cX6_reckon 68 = .ok (.invokevirtual 54, 3) := by decide +kernel
theorem dX6_reckon_71 : decode cX6_reckon 71 = .ok (.aload_n 0, 1) := by decide +kernel
theorem dX6_reckon_72 : decode cX6_reckon 72 = .ok (.iload_n 2, 1) := by decide +kernel
theorem dX6_reckon_73 : decode cX6_reckon 73 = .ok (.invokevirtual 54, 3) := by decide +kernel
theorem dX6_reckon_76 : decode cX6_reckon 76 = .ok (.aload_n 1, 1) := by decide +kernel
theorem dX6_reckon_77 : decode cX6_reckon 77 = .ok (.getfield 58, 3) := by decide +kernel
theorem dX6_reckon_80 : decode cX6_reckon 80 = .ok (.invokevirtual 61, 3) := by decide +kernel
theorem dX6_reckon_83 : decode cX6_reckon 83 = .ok (.invokevirtual 65, 3) := by decide +kernel
theorem dX6_reckon_86 : decode cX6_reckon 86 = .ok (.iinc 2 1, 3) := by decide +kernel
theorem dX6_reckon_89 : decode cX6_reckon 89 = .ok (.goto (-31), 3) := by decide +kernel
theorem dX6_reckon_92 : decode cX6_reckon 92 = .ok (.return_, 1) := by decide +kernel
theorem dX6_ofKey_0 : decode cX6_ofKey 0 = .ok (.iconst 0, 1) := by decide +kernel
theorem dX6_ofKey_1 : decode cX6_ofKey 1 = .ok (.istore_n 3, 1) := by decide +kernel
theorem dX6_ofKey_2 : decode cX6_ofKey 2 = .ok (.iload_n 3, 1) := by decide +kernel
theorem dX6_ofKey_3 : decode cX6_ofKey 3 = .ok (.aload_n 0, 1) := by decide +kernel
theorem dX6_ofKey_4 : decode cX6_ofKey 4 = .ok (.getfield 25, 3) := by decide +kernel
theorem dX6_ofKey_7 : decode cX6_ofKey 7 = .ok (.if_icmp .ge 28, 3) := by decide +kernel
theorem dX6_ofKey_10 : decode cX6_ofKey 10 = .ok (.aload_n 0, 1) := by decide +kernel
theorem dX6_ofKey_11 : decode cX6_ofKey 11 = .ok (.iload_n 3, 1) := by decide +kernel
theorem dX6_ofKey_12 : decode cX6_ofKey 12 = .ok (.invokevirtual 54, 3) := by decide +kernel
theorem dX6_ofKey_15 : decode cX6_ofKey 15 = .ok (.invokevirtual 42, 3) := by decide +kernel
theorem dX6_ofKey_18 : decode cX6_ofKey 18 = .ok (.lload_n 1, 1) := by decide +kernel
theorem dX6_ofKey_19 : decode cX6_ofKey 19 = .ok (.lcmp, 1) := by decide +kernel
theorem dX6_ofKey_20 : decode cX6_ofKey 20 = .ok (.ifCond .ne 9, 3) := by decide +kernel
theorem dX6_ofKey_23 : decode cX6_ofKey 23 = .ok (.aload_n 0, 1) := by decide +kernel
theorem dX6_ofKey_24 : decode cX6_ofKey 24 = .ok (.iload_n 3, 1) := by decide +kernel
theorem dX6_ofKey_25 : decode cX6_ofKey 25 = .ok (.invokevirtual 54, 3) := by decide +kernel
theorem dX6_ofKey_28 : decode cX6_ofKey 28 = .ok (.areturn, 1) := by decide +kernel
theorem dX6_ofKey_29 : decode cX6_ofKey 29 = .ok (.iinc 3 1, 3) := by decide +kernel
theorem dX6_ofKey_32 : decode cX6_ofKey 32 = .ok (.goto (-30), 3) := by decide +kernel
theorem dX6_ofKey_35 : decode cX6_ofKey 35 = .ok (.aload_n 0, 1) := by decide +kernel
theorem dX6_ofKey_36 : decode cX6_ofKey 36 = .ok (.aload_n 0, 1) := by decide +kernel
theorem dX6_ofKey_37 : decode cX6_ofKey 37 = .ok (.getfield 25, 3) := by decide +kernel
theorem dX6_ofKey_40 : decode cX6_ofKey 40 = .ok (.invokevirtual 54, 3) := by decide +kernel
theorem dX6_ofKey_43 : decode cX6_ofKey 43 = .ok (.astore_n 3, 1) := by decide +kernel
theorem dX6_ofKey_44 : decode cX6_ofKey 44 = .ok (.aload_n 3, 1) := by decide +kernel
theorem dX6_ofKey_45 : decode cX6_ofKey 45 = .ok (.invokevirtual 69, 3) := by decide +kernel
theorem dX6_ofKey_48 : decode cX6_ofKey 48 = .ok (.aload_n 0, 1) := by decide +kernel
theorem dX6_ofKey_49 : decode cX6_ofKey 49 = .ok (.getfield 25, 3) := by decide +kernel
theorem dX6_ofKey_52 : decode cX6_ofKey 52 = .ok (.bipush 40, 2) := by decide +kernel
theorem dX6_ofKey_54 : decode cX6_ofKey 54 = .ok (.if_icmp .ge 13, 3) := by decide +kernel
theorem dX6_ofKey_57 : decode cX6_ofKey 57 = .ok (.aload_n 0, 1) := by decide +kernel
theorem dX6_ofKey_58 : decode cX6_ofKey 58 = .ok (.dup, 1) := by decide +kernel
theorem dX6_ofKey_59 : decode cX6_ofKey 59 = .ok (.getfield 25, 3) := by decide +kernel
theorem dX6_ofKey_62 : decode cX6_ofKey 62 = .ok (.iconst 1, 1) := by decide +kernel
theorem dX6_ofKey_63 : decode cX6_ofKey 63 = .ok (.iadd, 1) := by decide +kernel
theorem dX6_ofKey_64 : decode cX6_ofKey 64 = .ok (.putfield 25, 3) := by decide +kernel
theorem dX6_ofKey_67 : decode cX6_ofKey 67 = .ok (.aload_n 3, 1) := by decide +kernel
theorem dX6_ofKey_68 : decode cX6_ofKey 68 = .ok (.areturn, 1) := by decide +kernel
theorem dX6_sum_0 : decode cX6_sum 0 = .ok (.iconst 0, 1) := by decide +kernel
theorem dX6_sum_1 : decode cX6_sum 1 = .ok (.istore_n 3, 1) := by decide +kernel
theorem dX6_sum_2 : decode cX6_sum 2 = .ok (.iconst 0, 1) := by decide +kernel
theorem dX6_sum_3 : decode cX6_sum 3 = .ok (.istore 4, 2) := by decide +kernel
theorem dX6_sum_5 : decode cX6_sum 5 = .ok (.iload 4, 2) := by decide +kernel
theorem dX6_sum_7 : decode cX6_sum 7 = .ok (.aload_n 0, 1) := by decide +kernel
theorem dX6_sum_8 : decode cX6_sum 8 = .ok (.getfield 25, 3) := by decide +kernel
theorem dX6_sum_11 : decode cX6_sum 11 = .ok (.if_icmp .ge 40, 3) := by decide +kernel
theorem dX6_sum_14 : decode cX6_sum 14 = .ok (.iload_n 1, 1) := by decide +kernel
theorem dX6_sum_15 : decode cX6_sum 15 = .ok (.iconst (-1), 1) := by decide +kernel
theorem dX6_sum_16 : decode cX6_sum 16 = .ok (.if_icmp .eq 16, 3) := by decide +kernel
theorem dX6_sum_19 : decode cX6_sum 19 = .ok (.aload_n 0, 1) := by decide +kernel
theorem dX6_sum_20 : decode cX6_sum 20 = .ok (.iload 4, 2) := by decide +kernel
theorem dX6_sum_22 : decode cX6_sum 22 = .ok (.invokevirtual 54, 3) := by decide +kernel
theorem dX6_sum_25 : decode cX6_sum 25 = .ok (.getfield 72, 3) := by decide +kernel
theorem dX6_sum_28 : decode cX6_sum 28 = .ok (.iload_n 1, 1) := by decide +kernel
theorem dX6_sum_29 : decode cX6_sum 29 = .ok (.if_icmp .ne 16, 3) := by decide +kernel
theorem dX6_sum_32 : decode cX6_sum 32 = .ok (.iload_n 3, 1) := by decide +kernel
theorem dX6_sum_33 : decode cX6_sum 33 = .ok (.aload_n 0, 1) := by decide +kernel
theorem dX6_sum_34 : decode cX6_sum 34 = .ok (.iload 4, 2) := by decide +kernel
theorem dX6_sum_36 : decode cX6_sum 36 = .ok (.invokevirtual 54, 3) := by decide +kernel
theorem dX6_sum_39 : decode cX6_sum 39 = .ok (.iload_n 2, 1) := by decide +kernel
theorem dX6_sum_40 : decode cX6_sum 40 = .ok (.invokestatic 75, 3) := by decide +kernel
theorem dX6_sum_43 : decode cX6_sum 43 = .ok (.iadd, 1) := by decide +kernel
theorem dX6_sum_44 : decode cX6_sum 44 = .ok (.istore_n 3, 1) := by decide +kernel
theorem dX6_sum_45 : decode cX6_sum 45 = .ok (.iinc 4 1, 3) := by decide +kernel
theorem dX6_sum_48 : decode cX6_sum 48 = .ok (.goto (-43), 3) := by decide +kernel
theorem dX6_sum_51 : decode cX6_sum 51 = .ok (.iload_n 3, 1) := by decide +kernel
theorem dX6_sum_52 : decode cX6_sum 52 = .ok (.ireturn, 1) := by decide +kernel
theorem dX6_numberOf_0 : decode cX6_numberOf 0 = .ok (.iload_n 1, 1) := by decide +kernel
theorem dX6_numberOf_1 : decode cX6_numberOf 1 = .ok (.tableswitch 51 0 3 #[31, 36, 41, 46], 31) := by decide +kernel
theorem dX6_numberOf_32 : decode cX6_numberOf 32 = .ok (.aload_n 0, 1) := by decide +kernel
theorem dX6_numberOf_33 : decode cX6_numberOf 33 = .ok (.getfield 79, 3) := by decide +kernel
theorem dX6_numberOf_36 : decode cX6_numberOf 36 = .ok (.ireturn, 1) := by decide +kernel
theorem dX6_numberOf_37 : decode cX6_numberOf 37 = .ok (.aload_n 0, 1) := by decide +kernel
theorem dX6_numberOf_38 : decode cX6_numberOf 38 = .ok (.getfield 82, 3) := by decide +kernel
theorem dX6_numberOf_41 : decode cX6_numberOf 41 = .ok (.ireturn, 1) := by decide +kernel
theorem dX6_numberOf_42 : decode cX6_numberOf 42 = .ok (.aload_n 0, 1) := by decide +kernel
theorem dX6_numberOf_43 : decode cX6_numberOf 43 = .ok (.getfield 85, 3) := by decide +kernel
theorem dX6_numberOf_46 : decode cX6_numberOf 46 = .ok (.ireturn, 1) := by decide +kernel
theorem dX6_numberOf_47 : decode cX6_numberOf 47 = .ok (.aload_n 0, 1) := by decide +kernel
theorem dX6_numberOf_48 : decode cX6_numberOf 48 = .ok (.getfield 88, 3) := by decide +kernel
theorem dX6_numberOf_51 : decode cX6_numberOf 51 = .ok (.ireturn, 1) := by decide +kernel
theorem dX6_numberOf_52 : decode cX6_numberOf 52 = .ok (.iconst 1, 1) := by decide +kernel
theorem dX6_numberOf_53 : decode cX6_numberOf 53 = .ok (.ireturn, 1) := by decide +kernel
theorem dX6_rank_0 : decode cX6_rank 0 = .ok (.iconst 1, 1) := by decide +kernel
theorem dX6_rank_1 : decode cX6_rank 1 = .ok (.istore_n 1, 1) := by decide +kernel
theorem dX6_rank_2 : decode cX6_rank 2 = .ok (.iload_n 1, 1) := by decide +kernel
theorem dX6_rank_3 : decode cX6_rank 3 = .ok (.aload_n 0, 1) := by decide +kernel
theorem dX6_rank_4 : decode cX6_rank 4 = .ok (.getfield 25, 3) := by decide +kernel
theorem dX6_rank_7 : decode cX6_rank 7 = .ok (.if_icmp .ge 59, 3) := by decide +kernel
theorem dX6_rank_10 : decode cX6_rank 10 = .ok (.aload_n 0, 1) := by decide +kernel
theorem dX6_rank_11 : decode cX6_rank 11 = .ok (.iload_n 1, 1) := by decide +kernel
theorem dX6_rank_12 : decode cX6_rank 12 = .ok (.invokevirtual 54, 3) := by decide +kernel
theorem dX6_rank_15 : decode cX6_rank 15 = .ok (.astore_n 2, 1) := by decide +kernel
theorem dX6_rank_16 : decode cX6_rank 16 = .ok (.iload_n 1, 1) := by decide +kernel
theorem dX6_rank_17 : decode cX6_rank 17 = .ok (.istore_n 3, 1) := by decide +kernel
theorem dX6_rank_18 : decode cX6_rank 18 = .ok (.iload_n 3, 1) := by decide +kernel
theorem dX6_rank_19 : decode cX6_rank 19 = .ok (.ifCond .le 35, 3) := by decide +kernel
theorem dX6_rank_22 : decode cX6_rank 22 = .ok (.aload_n 2, 1) := by decide +kernel
theorem dX6_rank_23 : decode cX6_rank 23 = .ok (.aload_n 0, 1) := by decide +kernel
theorem dX6_rank_24 : decode cX6_rank 24 = .ok (.iload_n 3, 1) := by decide +kernel
theorem dX6_rank_25 : decode cX6_rank 25 = .ok (.iconst 1, 1) := by decide +kernel
theorem dX6_rank_26 : decode cX6_rank 26 = .ok (.isub, 1) := by decide +kernel
theorem dX6_rank_27 : decode cX6_rank 27 = .ok (.invokevirtual 54, 3) := by decide +kernel
theorem dX6_rank_30 : decode cX6_rank 30 = .ok (.invokestatic 91, 3) := by decide +kernel
theorem dX6_rank_33 : decode cX6_rank 33 = .ok (.ifCond .eq 21, 3) := by decide +kernel
theorem dX6_rank_36 : decode cX6_rank 36 = .ok (.aload_n 0, 1) := by decide +kernel
theorem dX6_rank_37 : decode cX6_rank 37 = .ok (.iload_n 3, 1) := by decide +kernel
theorem dX6_rank_38 : decode cX6_rank 38 = .ok (.aload_n 0, 1) := by decide +kernel
theorem dX6_rank_39 : decode cX6_rank 39 = .ok (.iload_n 3, 1) := by decide +kernel
theorem dX6_rank_40 : decode cX6_rank 40 = .ok (.iconst 1, 1) := by decide +kernel
theorem dX6_rank_41 : decode cX6_rank 41 = .ok (.isub, 1) := by decide +kernel
theorem dX6_rank_42 : decode cX6_rank 42 = .ok (.invokevirtual 54, 3) := by decide +kernel
theorem dX6_rank_45 : decode cX6_rank 45 = .ok (.invokevirtual 95, 3) := by decide +kernel
theorem dX6_rank_48 : decode cX6_rank 48 = .ok (.iinc 3 (-1), 3) := by decide +kernel
theorem dX6_rank_51 : decode cX6_rank 51 = .ok (.goto (-33), 3) := by decide +kernel
theorem dX6_rank_54 : decode cX6_rank 54 = .ok (.aload_n 0, 1) := by decide +kernel
theorem dX6_rank_55 : decode cX6_rank 55 = .ok (.iload_n 3, 1) := by decide +kernel
theorem dX6_rank_56 : decode cX6_rank 56 = .ok (.aload_n 2, 1) := by decide +kernel
theorem dX6_rank_57 : decode cX6_rank 57 = .ok (.invokevirtual 95, 3) := by decide +kernel
theorem dX6_rank_60 : decode cX6_rank 60 = .ok (.iinc 1 1, 3) := by decide +kernel
theorem dX6_rank_63 : decode cX6_rank 63 = .ok (.goto (-61), 3) := by decide +kernel
theorem dX6_rank_66 : decode cX6_rank 66 = .ok (.return_, 1) := by decide +kernel
theorem dX6_put_0 : decode cX6_put 0 = .ok (.iload_n 1, 1) := by decide +kernel
theorem dX6_put_1 : decode cX6_put 1 = .ok (.ifCond .lt 16, 3) := by decide +kernel
theorem dX6_put_4 : decode cX6_put 4 = .ok (.iload_n 1, 1) := by decide +kernel
theorem dX6_put_5 : decode cX6_put 5 = .ok (.bipush 40, 2) := by decide +kernel
theorem dX6_put_7 : decode cX6_put 7 = .ok (.if_icmp .ge 10, 3) := by decide +kernel
theorem dX6_put_10 : decode cX6_put 10 = .ok (.aload_n 0, 1) := by decide +kernel
theorem dX6_put_11 : decode cX6_put 11 = .ok (.getfield 11, 3) := by decide +kernel
theorem dX6_put_14 : decode cX6_put 14 = .ok (.iload_n 1, 1) := by decide +kernel
theorem dX6_put_15 : decode cX6_put 15 = .ok (.aload_n 2, 1) := by decide +kernel
theorem dX6_put_16 : decode cX6_put 16 = .ok (.aastore, 1) := by decide +kernel
theorem dX6_put_17 : decode cX6_put 17 = .ok (.return_, 1) := by decide +kernel
theorem dX6_isAhead_0 : decode cX6_isAhead 0 = .ok (.aload_n 0, 1) := by decide +kernel
theorem dX6_isAhead_1 : decode cX6_isAhead 1 = .ok (.getfield 85, 3) := by decide +kernel
theorem dX6_isAhead_4 : decode cX6_isAhead 4 = .ok (.aload_n 1, 1) := by decide +kernel
theorem dX6_isAhead_5 : decode cX6_isAhead 5 = .ok (.getfield 85, 3) := by decide +kernel
theorem dX6_isAhead_8 : decode cX6_isAhead 8 = .ok (.if_icmp .gt 26, 3) := by decide +kernel
theorem dX6_isAhead_11 : decode cX6_isAhead 11 = .ok (.aload_n 0, 1) := by decide +kernel
theorem dX6_isAhead_12 : decode cX6_isAhead 12 = .ok (.getfield 85, 3) := by decide +kernel
theorem dX6_isAhead_15 : decode cX6_isAhead 15 = .ok (.aload_n 1, 1) := by decide +kernel
theorem dX6_isAhead_16 : decode cX6_isAhead 16 = .ok (.getfield 85, 3) := by decide +kernel
theorem dX6_isAhead_19 : decode cX6_isAhead 19 = .ok (.if_icmp .ne 19, 3) := by decide +kernel
theorem dX6_isAhead_22 : decode cX6_isAhead 22 = .ok (.aload_n 0, 1) := by decide +kernel
theorem dX6_isAhead_23 : decode cX6_isAhead 23 = .ok (.invokevirtual 42, 3) := by decide +kernel
theorem dX6_isAhead_26 : decode cX6_isAhead 26 = .ok (.aload_n 1, 1) := by decide +kernel
theorem dX6_isAhead_27 : decode cX6_isAhead 27 = .ok (.invokevirtual 42, 3) := by decide +kernel
theorem dX6_isAhead_30 : decode cX6_isAhead 30 = .ok (.lcmp, 1) := by decide +kernel
theorem dX6_isAhead_31 : decode cX6_isAhead 31 = .ok (.ifCond .ge 7, 3) := by decide +kernel
theorem dX6_isAhead_34 : decode cX6_isAhead 34 = .ok (.iconst 1, 1) := by decide +kernel
theorem dX6_isAhead_35 : decode cX6_isAhead 35 = .ok (.goto 4, 3) := by decide +kernel
theorem dX6_isAhead_38 : decode cX6_isAhead 38 = .ok (.iconst 0, 1) := by decide +kernel
theorem dX6_isAhead_39 : decode cX6_isAhead 39 = .ok (.ireturn, 1) := by decide +kernel
theorem dX7_init_0 : decode cX7_init 0 = .ok (.aload_n 0, 1) := by decide +kernel
theorem dX7_init_1 : decode cX7_init 1 = .ok (.invokespecial 3, 3) := by decide +kernel
theorem dX7_init_4 : decode cX7_init 4 = .ok (.aload_n 0, 1) := by decide +kernel
theorem dX7_init_5 : decode cX7_init 5 = .ok (.bipush 40, 2) := by decide +kernel
theorem dX7_init_7 : decode cX7_init 7 = .ok (.newarray .int, 2) := by decide +kernel
theorem dX7_init_9 : decode cX7_init 9 = .ok (.putfield 9, 3) := by decide +kernel
theorem dX7_init_12 : decode cX7_init 12 = .ok (.aload_n 0, 1) := by decide +kernel
theorem dX7_init_13 : decode cX7_init 13 = .ok (.bipush 40, 2) := by decide +kernel
theorem dX7_init_15 : decode cX7_init 15 = .ok (.newarray .int, 2) := by decide +kernel
theorem dX7_init_17 : decode cX7_init 17 = .ok (.putfield 15, 3) := by decide +kernel
theorem dX7_init_20 : decode cX7_init 20 = .ok (.aload_n 0, 1) := by decide +kernel
theorem dX7_init_21 : decode cX7_init 21 = .ok (.bipush 12, 2) := by decide +kernel
theorem dX7_init_23 : decode cX7_init 23 = .ok (.newarray .int, 2) := by decide +kernel
theorem dX7_init_25 : decode cX7_init 25 = .ok (.putfield 18, 3) := by decide +kernel
theorem dX7_init_28 : decode cX7_init 28 = .ok (.aload_n 0, 1) := by decide +kernel
theorem dX7_init_29 : decode cX7_init 29 = .ok (.bipush 40, 2) := by decide +kernel
theorem dX7_init_31 : decode cX7_init 31 = .ok (.anewarray 21, 3) := by decide +kernel
theorem dX7_init_34 : decode cX7_init 34 = .ok (.putfield 23, 3) := by decide +kernel
theorem dX7_init_37 : decode cX7_init 37 = .ok (.return_, 1) := by decide +kernel
theorem dX7_begin_0 : decode cX7_begin 0 = .ok (.aload_n 0, 1) := by decide +kernel
theorem dX7_begin_1 : decode cX7_begin 1 = .ok (.aload_n 1, 1) := by decide +kernel
theorem dX7_begin_2 : decode cX7_begin 2 = .ok (.invokevirtual 27, 3) := by decide +kernel
theorem dX7_begin_5 : decode cX7_begin 5 = .ok (.bipush 40, 2) := by decide +kernel
theorem dX7_begin_7 : decode cX7_begin 7 = .ok (.invokestatic 33, 3) := by decide +kernel
theorem dX7_begin_10 : decode cX7_begin 10 = .ok (.putfield 39, 3) := by decide +kernel
theorem dX7_begin_13 : decode cX7_begin 13 = .ok (.iconst 0, 1) := by decide +kernel
theorem dX7_begin_14 : decode cX7_begin 14 = .ok (.istore_n 2, 1) := by decide +kernel
theorem dX7_begin_15 : decode cX7_begin 15 = .ok (.iload_n 2, 1) := by decide +kernel
theorem dX7_begin_16 : decode cX7_begin 16 = .ok (.aload_n 0, 1) := by decide +kernel
theorem dX7_begin_17 : decode cX7_begin 17 = .ok (.getfield 39, 3) := by decide +kernel
theorem dX7_begin_20 : decode cX7_begin 20 = .ok (.if_icmp .ge 16, 3) := by decide +kernel
theorem dX7_begin_23 : decode cX7_begin 23 = .ok (.aload_n 0, 1) := by decide +kernel
theorem dX7_begin_24 : decode cX7_begin 24 = .ok (.getfield 9, 3) := by decide +kernel
theorem dX7_begin_27 : decode cX7_begin 27 = .ok (.iload_n 2, 1) := by decide +kernel
theorem dX7_begin_28 : decode cX7_begin 28 = .ok (.iload_n 2, 1) := by decide +kernel
theorem dX7_begin_29 : decode cX7_begin 29 = .ok (.iastore, 1) := by decide +kernel
theorem dX7_begin_30 : decode cX7_begin 30 = .ok (.iinc 2 1, 3) := by decide +kernel
theorem dX7_begin_33 : decode cX7_begin 33 = .ok (.goto (-18), 3) := by decide +kernel
theorem dX7_begin_36 : decode cX7_begin 36 = .ok (.return_, 1) := by decide +kernel
theorem dX7_passBy_0 : decode cX7_passBy 0 = .ok (.aload_n 0, 1) := by decide +kernel
theorem dX7_passBy_1 : decode cX7_passBy 1 = .ok (.aload_n 1, 1) := by decide +kernel
theorem dX7_passBy_2 : decode cX7_passBy 2 = .ok (.iload_n 2, 1) := by decide +kernel
theorem dX7_passBy_3 : decode cX7_passBy 3 = .ok (.invokevirtual 43, 3) := by decide +kernel
theorem dX7_passBy_6 : decode cX7_passBy 6 = .ok (.iconst 0, 1) := by decide +kernel
theorem dX7_passBy_7 : decode cX7_passBy 7 = .ok (.istore_n 3, 1) := by decide +kernel
theorem dX7_passBy_8 : decode cX7_passBy 8 = .ok (.iload_n 3, 1) := by decide +kernel
theorem dX7_passBy_9 : decode cX7_passBy 9 = .ok (.aload_n 0, 1) := by decide +kernel
theorem dX7_passBy_10 : decode cX7_passBy 10 = .ok (.getfield 39, 3) := by decide +kernel
theorem dX7_passBy_13 : decode cX7_passBy 13 = .ok (.if_icmp .ge 70, 3) := by decide +kernel
theorem dX7_passBy_16 : decode cX7_passBy 16 = .ok (.aload_n 1, 1) := by decide +kernel
theorem dX7_passBy_17 : decode cX7_passBy 17 = .ok (.aload_n 0, 1) := by decide +kernel
theorem dX7_passBy_18 : decode cX7_passBy 18 = .ok (.getfield 9, 3) := by decide +kernel
theorem dX7_passBy_21 : decode cX7_passBy 21 = .ok (.iload_n 3, 1) := by decide +kernel
theorem dX7_passBy_22 : decode cX7_passBy 22 = .ok (.iaload, 1) := by decide +kernel
theorem dX7_passBy_23 : decode cX7_passBy 23 = .ok (.invokevirtual 47, 3) := by decide +kernel
theorem dX7_passBy_26 : decode cX7_passBy 26 = .ok (.iload_n 2, 1) := by decide +kernel
theorem dX7_passBy_27 : decode cX7_passBy 27 = .ok (.invokestatic 51, 3) := by decide +kernel
theorem dX7_passBy_30 : decode cX7_passBy 30 = .ok (.istore 4, 2) := by decide +kernel
theorem dX7_passBy_32 : decode cX7_passBy 32 = .ok (.aload_n 0, 1) := by decide +kernel
theorem dX7_passBy_33 : decode cX7_passBy 33 = .ok (.getfield 18, 3) := by decide +kernel
theorem dX7_passBy_36 : decode cX7_passBy 36 = .ok (.iload 4, 2) := by decide +kernel
theorem dX7_passBy_38 : decode cX7_passBy 38 = .ok (.iaload, 1) := by decide +kernel
theorem dX7_passBy_39 : decode cX7_passBy 39 = .ok (.istore 5, 2) := by decide +kernel
theorem dX7_passBy_41 : decode cX7_passBy 41 = .ok (.iload 5, 2) := by decide +kernel
theorem dX7_passBy_43 : decode cX7_passBy 43 = .ok (.ifCond .lt 23, 3) := by decide +kernel
theorem dX7_passBy_46 : decode cX7_passBy 46 = .ok (.iload 5, 2) := by decide +kernel
theorem dX7_passBy_48 : decode cX7_passBy 48 = .ok (.bipush 40, 2) := by decide +kernel
theorem dX7_passBy_50 : decode cX7_passBy 50 = .ok (.if_icmp .ge 16, 3) := by decide +kernel
theorem dX7_passBy_53 : decode cX7_passBy 53 = .ok (.aload_n 0, 1) := by decide +kernel
theorem dX7_passBy_54 : decode cX7_passBy 54 = .ok (.getfield 15, 3) := by decide +kernel
theorem dX7_passBy_57 : decode cX7_passBy 57 = .ok (.iload 5, 2) := by decide +kernel
theorem dX7_passBy_59 : decode cX7_passBy 59 = .ok (.aload_n 0, 1) := by decide +kernel
theorem dX7_passBy_60 : decode cX7_passBy 60 = .ok (.getfield 9, 3) := by decide +kernel
theorem dX7_passBy_63 : decode cX7_passBy 63 = .ok (.iload_n 3, 1) := by decide +kernel
theorem dX7_passBy_64 : decode cX7_passBy 64 = .ok (.iaload, 1) := by decide +kernel
theorem dX7_passBy_65 : decode cX7_passBy 65 = .ok (.iastore, 1) := by decide +kernel
theorem dX7_passBy_66 : decode cX7_passBy 66 = .ok (.aload_n 0, 1) := by decide +kernel
theorem dX7_passBy_67 : decode cX7_passBy 67 = .ok (.getfield 18, 3) := by decide +kernel
theorem dX7_passBy_70 : decode cX7_passBy 70 = .ok (.iload 4, 2) := by decide +kernel
theorem dX7_passBy_72 : decode cX7_passBy 72 = .ok (.dup2, 1) := by decide +kernel
theorem dX7_passBy_73 : decode cX7_passBy 73 = .ok (.iaload, 1) := by decide +kernel
theorem dX7_passBy_74 : decode cX7_passBy 74 = .ok (.iconst 1, 1) := by decide +kernel
theorem dX7_passBy_75 : decode cX7_passBy 75 = .ok (.iadd, 1) := by decide +kernel
theorem dX7_passBy_76 : decode cX7_passBy 76 = .ok (.iastore, 1) := by decide +kernel
theorem dX7_passBy_77 : decode cX7_passBy 77 = .ok (.iinc 3 1, 3) := by decide +kernel
theorem dX7_passBy_80 : decode cX7_passBy 80 = .ok (.goto (-72), 3) := by decide +kernel
theorem dX7_passBy_83 : decode cX7_passBy 83 = .ok (.aload_n 0, 1) := by decide +kernel
theorem dX7_passBy_84 : decode cX7_passBy 84 = .ok (.getfield 15, 3) := by decide +kernel
theorem dX7_passBy_87 : decode cX7_passBy 87 = .ok (.iconst 0, 1) := by decide +kernel
theorem dX7_passBy_88 : decode cX7_passBy 88 = .ok (.aload_n 0, 1) := by decide +kernel
theorem dX7_passBy_89 : decode cX7_passBy 89 = .ok (.getfield 9, 3) := by decide +kernel
theorem dX7_passBy_92 : decode cX7_passBy 92 = .ok (.iconst 0, 1) := by decide +kernel
theorem dX7_passBy_93 : decode cX7_passBy 93 = .ok (.aload_n 0, 1) := by decide +kernel
theorem dX7_passBy_94 : decode cX7_passBy 94 = .ok (.getfield 39, 3) := by decide +kernel
theorem dX7_passBy_97 : decode cX7_passBy 97 = .ok (.invokestatic 55, 3) := by decide +kernel
theorem dX7_passBy_100 : decode cX7_passBy 100 = .ok (.return_, 1) := by decide +kernel
theorem dX7_findStarts_0 : decode cX7_findStarts 0 = .ok (.iconst 0, 1) := by decide +kernel
theorem dX7_findStarts_1 : decode cX7_findStarts 1 = .ok (.istore_n 3, 1) := by decide +kernel
theorem dX7_findStarts_2 : decode cX7_findStarts 2 = .ok (.iload_n 3, 1) := by decide +kernel
theorem dX7_findStarts_3 : decode cX7_findStarts 3 = .ok (.bipush 11, 2) := by decide +kernel
theorem dX7_findStarts_5 : decode cX7_findStarts 5 = .ok (.if_icmp .gt 16, 3) := by decide +kernel
theorem dX7_findStarts_8 : decode cX7_findStarts 8 = .ok (.aload_n 0, 1) := by decide +kernel
theorem dX7_findStarts_9 : decode cX7_findStarts 9 = .ok (.getfield 18, 3) := by decide +kernel
theorem dX7_findStarts_12 : decode cX7_findStarts 12 = .ok (.iload_n 3, 1) := by decide +kernel
theorem dX7_findStarts_13 : decode cX7_findStarts 13 = .ok (.iconst 0, 1) := by decide +kernel
theorem dX7_findStarts_14 : decode cX7_findStarts 14 = .ok (.iastore, 1) := by decide +kernel
theorem dX7_findStarts_15 : decode cX7_findStarts 15 = .ok (.iinc 3 1, 3) := by decide +kernel
theorem dX7_findStarts_18 : decode cX7_findStarts 18 = .ok (.goto (-16), 3) := by decide +kernel
theorem dX7_findStarts_21 : decode cX7_findStarts 21 = .ok (.iconst 0, 1) := by decide +kernel
theorem dX7_findStarts_22 : decode cX7_findStarts 22 = .ok (.istore_n 3, 1) := by decide +kernel
theorem dX7_findStarts_23 : decode cX7_findStarts 23 = .ok (.iload_n 3, 1) := by decide +kernel
theorem dX7_findStarts_24 : decode cX7_findStarts 24 = .ok (.aload_n 0, 1) := by decide +kernel
theorem dX7_findStarts_25 : decode cX7_findStarts 25 = .ok (.getfield 39, 3) := by decide +kernel
theorem dX7_findStarts_28 : decode cX7_findStarts 28 = .ok (.if_icmp .ge 34, 3) := by decide +kernel
theorem dX7_findStarts_31 : decode cX7_findStarts 31 = .ok (.aload_n 0, 1) := by decide +kernel
theorem dX7_findStarts_32 : decode cX7_findStarts 32 = .ok (.getfield 18, 3) := by decide +kernel
theorem dX7_findStarts_35 : decode cX7_findStarts 35 = .ok (.aload_n 1, 1) := by decide +kernel
theorem dX7_findStarts_36 : decode cX7_findStarts 36 = .ok (.aload_n 0, 1) := by decide +kernel
theorem dX7_findStarts_37 : decode cX7_findStarts 37 = .ok (.getfield 9, 3) := by decide +kernel
theorem dX7_findStarts_40 : decode cX7_findStarts 40 = .ok (.iload_n 3, 1) := by decide +kernel
theorem dX7_findStarts_41 : decode cX7_findStarts 41 = .ok (.iaload, 1) := by decide +kernel
theorem dX7_findStarts_42 : decode cX7_findStarts 42 = .ok (.invokevirtual 47, 3) := by decide +kernel
theorem dX7_findStarts_45 : decode cX7_findStarts 45 = .ok (.iload_n 2, 1) := by decide +kernel
theorem dX7_findStarts_46 : decode cX7_findStarts 46 = .ok (.invokestatic 51, 3) := by decide +kernel
theorem dX7_findStarts_49 : decode cX7_findStarts 49 = .ok (.iconst 1, 1) := by decide +kernel
theorem dX7_findStarts_50 : decode cX7_findStarts 50 = .ok (.iadd, 1) := by decide +kernel
theorem dX7_findStarts_51 : decode cX7_findStarts 51 = .ok (.dup2, 1) := by decide +kernel
theorem dX7_findStarts_52 : decode cX7_findStarts 52 = .ok (.iaload, 1) := by decide +kernel
theorem dX7_findStarts_53 : decode cX7_findStarts 53 = .ok (.iconst 1, 1) := by decide +kernel
theorem dX7_findStarts_54 : decode cX7_findStarts 54 = .ok (.iadd, 1) := by decide +kernel
theorem dX7_findStarts_55 : decode cX7_findStarts 55 = .ok (.iastore, 1) := by decide +kernel
theorem dX7_findStarts_56 : decode cX7_findStarts 56 = .ok (.iinc 3 1, 3) := by decide +kernel
theorem dX7_findStarts_59 : decode cX7_findStarts 59 = .ok (.goto (-36), 3) := by decide +kernel
theorem dX7_findStarts_62 : decode cX7_findStarts 62 = .ok (.iconst 1, 1) := by decide +kernel
theorem dX7_findStarts_63 : decode cX7_findStarts 63 = .ok (.istore_n 3, 1) := by decide +kernel
theorem dX7_findStarts_64 : decode cX7_findStarts 64 = .ok (.iload_n 3, 1) := by decide +kernel
theorem dX7_findStarts_65 : decode cX7_findStarts 65 = .ok (.bipush 11, 2) := by decide +kernel
theorem dX7_findStarts_67 : decode cX7_findStarts 67 = .ok (.if_icmp .gt 26, 3) := by decide +kernel
theorem dX7_findStarts_70 : decode cX7_findStarts 70 = .ok (.aload_n 0, 1) := by decide +kernel
theorem dX7_findStarts_71 : decode cX7_findStarts 71 = .ok (.getfield 18, 3) := by decide +kernel
theorem dX7_findStarts_74 : decode cX7_findStarts 74 = .ok (.iload_n 3, 1) := by decide +kernel
theorem dX7_findStarts_75 : decode cX7_findStarts 75 = .ok (.dup2, 1) := by decide +kernel
theorem dX7_findStarts_76 : decode cX7_findStarts 76 = .ok (.iaload, 1) := by decide +kernel
theorem dX7_findStarts_77 : decode cX7_findStarts 77 = .ok (.aload_n 0, 1) := by decide +kernel
theorem dX7_findStarts_78 : decode cX7_findStarts 78 = .ok (.getfield 18, 3) := by decide +kernel
theorem dX7_findStarts_81 : decode cX7_findStarts 81 = .ok (.iload_n 3, 1) := by decide +kernel
theorem dX7_findStarts_82 : decode cX7_findStarts 82 = .ok (.iconst 1, 1) := by decide +kernel
theorem dX7_findStarts_83 : decode cX7_findStarts 83 = .ok (.isub, 1) := by decide +kernel
theorem dX7_findStarts_84 : decode cX7_findStarts 84 = .ok (.iaload, 1) := by decide +kernel
theorem dX7_findStarts_85 : decode cX7_findStarts 85 = .ok (.iadd, 1) := by decide +kernel
theorem dX7_findStarts_86 : decode cX7_findStarts 86 = .ok (.iastore, 1) := by decide +kernel
theorem dX7_findStarts_87 : decode cX7_findStarts 87 = .ok (.iinc 3 1, 3) := by decide +kernel
theorem dX7_findStarts_90 : decode cX7_findStarts 90 = .ok (.goto (-26), 3) := by decide +kernel
theorem dX7_findStarts_93 : decode cX7_findStarts 93 = .ok (.return_, 1) := by decide +kernel
theorem dX7_stackOf_0 : decode cX7_stackOf 0 = .ok (.aload_n 0, 1) := by decide +kernel
theorem dX7_stackOf_1 : decode cX7_stackOf 1 = .ok (.iload_n 1, 1) := by decide +kernel
theorem dX7_stackOf_2 : decode cX7_stackOf 2 = .ok (.invokevirtual 61, 3) := by decide +kernel
theorem dX7_stackOf_5 : decode cX7_stackOf 5 = .ok (.istore_n 2, 1) := by decide +kernel
theorem dX7_stackOf_6 : decode cX7_stackOf 6 = .ok (.iload_n 2, 1) := by decide +kernel
theorem dX7_stackOf_7 : decode cX7_stackOf 7 = .ok (.iconst 0, 1) := by decide +kernel
theorem dX7_stackOf_8 : decode cX7_stackOf 8 = .ok (.bipush 9, 2) := by decide +kernel
theorem dX7_stackOf_10 : decode cX7_stackOf 10 = .ok (.invokestatic 65, 3) := by decide +kernel
theorem dX7_stackOf_13 : decode cX7_stackOf 13 = .ok (.ifCond .eq 9, 3) := by decide +kernel
theorem dX7_stackOf_16 : decode cX7_stackOf 16 = .ok (.iload_n 2, 1) := by decide +kernel
theorem dX7_stackOf_17 : decode cX7_stackOf 17 = .ok (.iconst 1, 1) := by decide +kernel
theorem dX7_stackOf_18 : decode cX7_stackOf 18 = .ok (.iadd, 1) := by decide +kernel
theorem dX7_stackOf_19 : decode cX7_stackOf 19 = .ok (.goto 4, 3) := by decide +kernel
theorem dX7_stackOf_22 : decode cX7_stackOf 22 = .ok (.iconst 0, 1) := by decide +kernel
theorem dX7_stackOf_23 : decode cX7_stackOf 23 = .ok (.ireturn, 1) := by decide +kernel
theorem dX7_arrange_0 : decode cX7_arrange 0 = .ok (.iconst 0, 1) := by decide +kernel
theorem dX7_arrange_1 : decode cX7_arrange 1 = .ok (.istore_n 2, 1) := by decide +kernel
theorem dX7_arrange_2 : decode cX7_arrange 2 = .ok (.iconst 0, 1) := by decide +kernel
theorem dX7_arrange_3 : decode cX7_arrange 3 = .ok (.istore_n 3, 1) := by decide +kernel
theorem dX7_arrange_4 : decode cX7_arrange 4 = .ok (.iload_n 3, 1) := by decide +kernel
theorem dX7_arrange_5 : decode cX7_arrange 5 = .ok (.aload_n 0, 1) := by decide +kernel
theorem dX7_arrange_6 : decode cX7_arrange 6 = .ok (.getfield 39, 3) := by decide +kernel
theorem dX7_arrange_9 : decode cX7_arrange 9 = .ok (.if_icmp .ge 38, 3) := by decide +kernel
theorem dX7_arrange_12 : decode cX7_arrange 12 = .ok (.aload_n 0, 1) := by decide +kernel
theorem dX7_arrange_13 : decode cX7_arrange 13 = .ok (.getfield 23, 3) := by decide +kernel
theorem dX7_arrange_16 : decode cX7_arrange 16 = .ok (.iload_n 3, 1) := by decide +kernel
theorem dX7_arrange_17 : decode cX7_arrange 17 = .ok (.aload_n 1, 1) := by decide +kernel
theorem dX7_arrange_18 : decode cX7_arrange 18 = .ok (.aload_n 0, 1) := by decide +kernel
theorem dX7_arrange_19 : decode cX7_arrange 19 = .ok (.getfield 9, 3) := by decide +kernel
theorem dX7_arrange_22 : decode cX7_arrange 22 = .ok (.iload_n 3, 1) := by decide +kernel
theorem dX7_arrange_23 : decode cX7_arrange 23 = .ok (.iaload, 1) := by decide +kernel
theorem dX7_arrange_24 : decode cX7_arrange 24 = .ok (.invokevirtual 47, 3) := by decide +kernel
theorem dX7_arrange_27 : decode cX7_arrange 27 = .ok (.aastore, 1) := by decide +kernel
theorem dX7_arrange_28 : decode cX7_arrange 28 = .ok (.aload_n 0, 1) := by decide +kernel
theorem dX7_arrange_29 : decode cX7_arrange 29 = .ok (.getfield 9, 3) := by decide +kernel
theorem dX7_arrange_32 : decode cX7_arrange 32 = .ok (.iload_n 3, 1) := by decide +kernel
theorem dX7_arrange_33 : decode cX7_arrange 33 = .ok (.iaload, 1) := by decide +kernel
theorem dX7_arrange_34 : decode cX7_arrange 34 = .ok (.iload_n 3, 1) := by decide +kernel
theorem dX7_arrange_35 : decode cX7_arrange 35 = .ok (.if_icmp .eq 6, 3) := by decide +kernel
theorem dX7_arrange_38 : decode cX7_arrange 38 = .ok (.iinc 2 1, 3) := by decide +kernel
theorem dX7_arrange_41 : decode cX7_arrange 41 = .ok (.iinc 3 1, 3) := by decide +kernel
theorem dX7_arrange_44 : decode cX7_arrange 44 = .ok (.goto (-40), 3) := by decide +kernel
theorem dX7_arrange_47 : decode cX7_arrange 47 = .ok (.iconst 0, 1) := by decide +kernel
theorem dX7_arrange_48 : decode cX7_arrange 48 = .ok (.istore_n 3, 1) := by decide +kernel
theorem dX7_arrange_49 : decode cX7_arrange 49 = .ok (.iload_n 3, 1) := by decide +kernel
theorem dX7_arrange_50 : decode cX7_arrange 50 = .ok (.aload_n 0, 1) := by decide +kernel
theorem dX7_arrange_51 : decode cX7_arrange 51 = .ok (.getfield 39, 3) := by decide +kernel
theorem dX7_arrange_54 : decode cX7_arrange 54 = .ok (.if_icmp .ge 20, 3) := by decide +kernel
theorem dX7_arrange_57 : decode cX7_arrange 57 = .ok (.aload_n 1, 1) := by decide +kernel
theorem dX7_arrange_58 : decode cX7_arrange 58 = .ok (.iload_n 3, 1) := by decide +kernel
theorem dX7_arrange_59 : decode cX7_arrange 59 = .ok (.aload_n 0, 1) := by decide +kernel
theorem dX7_arrange_60 : decode cX7_arrange 60 = .ok (.getfield 23, 3) := by decide +kernel
theorem dX7_arrange_63 : decode cX7_arrange 63 = .ok (.iload_n 3, 1) := by decide +kernel
theorem dX7_arrange_64 : decode cX7_arrange 64 = .ok (.aaload, 1) := by decide +kernel
theorem dX7_arrange_65 : decode cX7_arrange 65 = .ok (.invokevirtual 69, 3) := by decide +kernel
theorem dX7_arrange_68 : decode cX7_arrange 68 = .ok (.iinc 3 1, 3) := by decide +kernel
theorem dX7_arrange_71 : decode cX7_arrange 71 = .ok (.goto (-22), 3) := by decide +kernel
theorem dX7_arrange_74 : decode cX7_arrange 74 = .ok (.iload_n 2, 1) := by decide +kernel
theorem dX7_arrange_75 : decode cX7_arrange 75 = .ok (.ireturn, 1) := by decide +kernel
theorem dX7_isInKeyOrder_0 : decode cX7_isInKeyOrder 0 = .ok (.ldc2_w 73, 3) := by decide +kernel
theorem dX7_isInKeyOrder_3 : decode cX7_isInKeyOrder 3 = .ok (.lstore_n 3, 1) := by decide +kernel
theorem dX7_isInKeyOrder_4 : decode cX7_isInKeyOrder 4 = .ok (.iconst 0, 1) := by decide +kernel
theorem dX7_isInKeyOrder_5 : decode cX7_isInKeyOrder 5 = .ok (.istore 5, 2) := by decide +kernel
theorem dX7_isInKeyOrder_7 : decode cX7_isInKeyOrder 7 = .ok (.iload 5, 2) := by decide +kernel
theorem dX7_isInKeyOrder_9 : decode cX7_isInKeyOrder 9 = .ok (.aload_n 0, 1) := by decide +kernel
theorem dX7_isInKeyOrder_10 : decode cX7_isInKeyOrder 10 = .ok (.getfield 39, 3) := by decide +kernel
theorem dX7_isInKeyOrder_13 : decode cX7_isInKeyOrder 13 = .ok (.if_icmp .ge 47, 3) := by decide +kernel
theorem dX7_isInKeyOrder_16 : decode cX7_isInKeyOrder 16 = .ok (.aload_n 2, 1) := by decide +kernel
theorem dX7_isInKeyOrder_17 : decode cX7_isInKeyOrder 17 = .ok (.aload_n 1, 1) := by decide +kernel
theorem dX7_isInKeyOrder_18 : decode cX7_isInKeyOrder 18 = .ok (.aload_n 0, 1) := by decide +kernel
theorem dX7_isInKeyOrder_19 : decode cX7_isInKeyOrder 19 = .ok (.getfield 9, 3) := by decide +kernel
theorem dX7_isInKeyOrder_22 : decode cX7_isInKeyOrder 22 = .ok (.iload 5, 2) := by decide +kernel
theorem dX7_isInKeyOrder_24 : decode cX7_isInKeyOrder 24 = .ok (.iaload, 1) := by decide +kernel
theorem dX7_isInKeyOrder_25 : decode cX7_isInKeyOrder 25 = .ok (.invokevirtual 47, 3) := by decide +kernel
theorem dX7_isInKeyOrder_28 : decode cX7_isInKeyOrder 28 = .ok (.invokevirtual 75, 3) := by decide +kernel
theorem dX7_isInKeyOrder_31 : decode cX7_isInKeyOrder 31 = .ok (.lstore 6, 2) := by decide +kernel
theorem dX7_isInKeyOrder_33 : decode cX7_isInKeyOrder 33 = .ok (.lload 6, 2) := by decide +kernel
theorem dX7_isInKeyOrder_35 : decode cX7_isInKeyOrder 35 = .ok (.ldc2_w 73, 3) := by decide +kernel
theorem dX7_isInKeyOrder_38 : decode cX7_isInKeyOrder 38 = .ok (.lcmp, 1) := by decide +kernel
theorem dX7_isInKeyOrder_39 : decode cX7_isInKeyOrder 39 = .ok (.ifCond .eq 15, 3) := by decide +kernel
theorem dX7_isInKeyOrder_42 : decode cX7_isInKeyOrder 42 = .ok (.lload 6, 2) := by decide +kernel
theorem dX7_isInKeyOrder_44 : decode cX7_isInKeyOrder 44 = .ok (.lload_n 3, 1) := by decide +kernel
theorem dX7_isInKeyOrder_45 : decode cX7_isInKeyOrder 45 = .ok (.lcmp, 1) := by decide +kernel
theorem dX7_isInKeyOrder_46 : decode cX7_isInKeyOrder 46 = .ok (.ifCond .ge 5, 3) := by decide +kernel
theorem dX7_isInKeyOrder_49 : decode cX7_isInKeyOrder 49 = .ok (.iconst 0, 1) := by decide +kernel
theorem dX7_isInKeyOrder_50 : decode cX7_isInKeyOrder 50 = .ok (.ireturn, 1) := by decide +kernel
theorem dX7_isInKeyOrder_51 : decode cX7_isInKeyOrder 51 = .ok (.lload 6, 2) := by decide +kernel
theorem dX7_isInKeyOrder_53 : decode cX7_isInKeyOrder 53 = .ok (.lstore_n 3, 1) := by decide +kernel
theorem dX7_isInKeyOrder_54 : decode cX7_isInKeyOrder 54 = .ok (.iinc 5 1, 3) := by decide +kernel
theorem dX7_isInKeyOrder_57 : decode cX7_isInKeyOrder 57 = .ok (.goto (-50), 3) := by decide +kernel
theorem dX7_isInKeyOrder_60 : decode cX7_isInKeyOrder 60 = .ok (.iconst 1, 1) := by decide +kernel
theorem dX7_isInKeyOrder_61 : decode cX7_isInKeyOrder 61 = .ok (.ireturn, 1) := by decide +kernel
theorem dX8_init_0 : decode cX8_init 0 = .ok (.aload_n 0, 1) := by decide +kernel
theorem dX8_init_1 : decode cX8_init 1 = .ok (.invokespecial 3, 3) := by decide +kernel
theorem dX8_init_4 : decode cX8_init 4 = .ok (.aload_n 0, 1) := by decide +kernel
theorem dX8_init_5 : decode cX8_init 5 = .ok (.new 9, 3) := by decide +kernel
theorem dX8_init_8 : decode cX8_init 8 = .ok (.dup, 1) := by decide +kernel
theorem dX8_init_9 : decode cX8_init 9 = .ok (.invokespecial 11, 3) := by decide +kernel
theorem dX8_init_12 : decode cX8_init 12 = .ok (.putfield 12, 3) := by decide +kernel
theorem dX8_init_15 : decode cX8_init 15 = .ok (.aload_n 0, 1) := by decide +kernel
theorem dX8_init_16 : decode cX8_init 16 = .ok (.new 18, 3) := by decide +kernel
theorem dX8_init_19 : decode cX8_init 19 = .ok (.dup, 1) := by decide +kernel
theorem dX8_init_20 : decode cX8_init 20 = .ok (.invokespecial 20, 3) := by decide +kernel
theorem dX8_init_23 : decode cX8_init 23 = .ok (.putfield 21, 3) := by decide +kernel
theorem dX8_init_26 : decode cX8_init 26 = .ok (.aload_n 0, 1) := by decide +kernel
theorem dX8_init_27 : decode cX8_init 27 = .ok (.new 25, 3) := by decide +kernel
theorem dX8_init_30 : decode cX8_init 30 = .ok (.dup, 1) := by decide +kernel
theorem dX8_init_31 : decode cX8_init 31 = .ok (.invokespecial 27, 3) := by decide +kernel
theorem dX8_init_34 : decode cX8_init 34 = .ok (.putfield 28, 3) := by decide +kernel
theorem dX8_init_37 : decode cX8_init 37 = .ok (.aload_n 0, 1) := by decide +kernel
theorem dX8_init_38 : decode cX8_init 38 = .ok (.iconst 4, 1) := by decide +kernel
theorem dX8_init_39 : decode cX8_init 39 = .ok (.newarray .int, 2) := by decide +kernel
theorem dX8_init_41 : decode cX8_init 41 = .ok (.dup, 1) := by decide +kernel
theorem dX8_init_42 : decode cX8_init 42 = .ok (.iconst 0, 1) := by decide +kernel
theorem dX8_init_43 : decode cX8_init 43 = .ok (.iconst 1, 1) := by decide +kernel
theorem dX8_init_44 : decode cX8_init 44 = .ok (.iastore, 1) := by decide +kernel
theorem dX8_init_45 : decode cX8_init 45 = .ok (.dup, 1) := by decide +kernel
theorem dX8_init_46 : decode cX8_init 46 = .ok (.iconst 1, 1) := by decide +kernel
theorem dX8_init_47 : decode cX8_init 47 = .ok (.iconst 1, 1) := by decide +kernel
theorem dX8_init_48 : decode cX8_init 48 = .ok (.iastore, 1) := by decide +kernel
theorem dX8_init_49 : decode cX8_init 49 = .ok (.dup, 1) := by decide +kernel
theorem dX8_init_50 : decode cX8_init 50 = .ok (.iconst 2, 1) := by decide +kernel
theorem dX8_init_51 : decode cX8_init 51 = .ok (.sipush 999, 3) := by decide +kernel
theorem dX8_init_54 : decode cX8_init 54 = .ok (.iastore, 1) := by decide +kernel
theorem dX8_init_55 : decode cX8_init 55 = .ok (.dup, 1) := by decide +kernel
theorem dX8_init_56 : decode cX8_init 56 = .ok (.iconst 3, 1) := by decide +kernel
theorem dX8_init_57 : decode cX8_init 57 = .ok (.sipush 400, 3) := by decide +kernel
theorem dX8_init_60 : decode cX8_init 60 = .ok (.iastore, 1) := by decide +kernel
theorem dX8_init_61 : decode cX8_init 61 = .ok (.putfield 32, 3) := by decide +kernel
theorem dX8_init_64 : decode cX8_init 64 = .ok (.aload_n 0, 1) := by decide +kernel
theorem dX8_init_65 : decode cX8_init 65 = .ok (.iconst 3, 1) := by decide +kernel
theorem dX8_init_66 : decode cX8_init 66 = .ok (.newarray .int, 2) := by decide +kernel
theorem dX8_init_68 : decode cX8_init 68 = .ok (.dup, 1) := by decide +kernel
theorem dX8_init_69 : decode cX8_init 69 = .ok (.iconst 0, 1) := by decide +kernel
theorem dX8_init_70 : decode cX8_init 70 = .ok (.ldc 36, 2) := by decide +kernel
theorem dX8_init_72 : decode cX8_init 72 = .ok (.iastore, 1) := by decide +kernel
theorem dX8_init_73 : decode cX8_init 73 = .ok (.dup, 1) := by decide +kernel
theorem dX8_init_74 : decode cX8_init 74 = .ok (.iconst 1, 1) := by decide +kernel
theorem dX8_init_75 : decode cX8_init 75 = .ok (.ldc 36, 2) := by decide +kernel
theorem dX8_init_77 : decode cX8_init 77 = .ok (.iastore, 1) := by decide +kernel
theorem dX8_init_78 : decode cX8_init 78 = .ok (.dup, 1) := by decide +kernel
theorem dX8_init_79 : decode cX8_init 79 = .ok (.iconst 2, 1) := by decide +kernel
theorem dX8_init_80 : decode cX8_init 80 = .ok (.ldc 36, 2) := by decide +kernel
theorem dX8_init_82 : decode cX8_init 82 = .ok (.iastore, 1) := by decide +kernel
theorem dX8_init_83 : decode cX8_init 83 = .ok (.putfield 37, 3) := by decide +kernel
theorem dX8_init_86 : decode cX8_init 86 = .ok (.return_, 1) := by decide +kernel
theorem dX8_settingOf_0 : decode cX8_settingOf 0 = .ok (.iload_n 1, 1) := by decide +kernel
theorem dX8_settingOf_1 : decode cX8_settingOf 1 = .ok (.invokestatic 40, 3) := by decide +kernel
theorem dX8_settingOf_4 : decode cX8_settingOf 4 = .ok (.ifCond .eq 12, 3) := by decide +kernel
theorem dX8_settingOf_7 : decode cX8_settingOf 7 = .ok (.aload_n 0, 1) := by decide +kernel
theorem dX8_settingOf_8 : decode cX8_settingOf 8 = .ok (.getfield 32, 3) := by decide +kernel
theorem dX8_settingOf_11 : decode cX8_settingOf 11 = .ok (.iload_n 1, 1) := by decide +kernel
theorem dX8_settingOf_12 : decode cX8_settingOf 12 = .ok (.iaload, 1) := by decide +kernel
theorem dX8_settingOf_13 : decode cX8_settingOf 13 = .ok (.goto 4, 3) := by decide +kernel
theorem dX8_settingOf_16 : decode cX8_settingOf 16 = .ok (.iconst 0, 1) := by decide +kernel
theorem dX8_settingOf_17 : decode cX8_settingOf 17 = .ok (.ireturn, 1) := by decide +kernel
theorem dX8_copyFrom_0 : decode cX8_copyFrom 0 = .ok (.aload_n 0, 1) := by decide +kernel
theorem dX8_copyFrom_1 : decode cX8_copyFrom 1 = .ok (.getfield 12, 3) := by decide +kernel
theorem dX8_copyFrom_4 : decode cX8_copyFrom 4 = .ok (.aload_n 1, 1) := by decide +kernel
theorem dX8_copyFrom_5 : decode cX8_copyFrom 5 = .ok (.getfield 12, 3) := by decide +kernel
theorem dX8_copyFrom_8 : decode cX8_copyFrom 8 = .ok (.invokevirtual 44, 3) := by decide +kernel
theorem dX8_copyFrom_11 : decode cX8_copyFrom 11 = .ok (.aload_n 0, 1) := by decide +kernel
theorem dX8_copyFrom_12 : decode cX8_copyFrom 12 = .ok (.getfield 21, 3) := by decide +kernel
theorem dX8_copyFrom_15 : decode cX8_copyFrom 15 = .ok (.aload_n 1, 1) := by decide +kernel
theorem dX8_copyFrom_16 : decode cX8_copyFrom 16 = .ok (.getfield 21, 3) := by decide +kernel
theorem dX8_copyFrom_19 : decode cX8_copyFrom 19 = .ok (.invokevirtual 48, 3) := by decide +kernel
theorem dX8_copyFrom_22 : decode cX8_copyFrom 22 = .ok (.aload_n 0, 1) := by decide +kernel
theorem dX8_copyFrom_23 : decode cX8_copyFrom 23 = .ok (.getfield 28, 3) := by decide +kernel
theorem dX8_copyFrom_26 : decode cX8_copyFrom 26 = .ok (.aload_n 1, 1) := by decide +kernel
theorem dX8_copyFrom_27 : decode cX8_copyFrom 27 = .ok (.getfield 28, 3) := by decide +kernel
theorem dX8_copyFrom_30 : decode cX8_copyFrom 30 = .ok (.invokevirtual 51, 3) := by decide +kernel
theorem dX8_copyFrom_33 : decode cX8_copyFrom 33 = .ok (.aload_n 1, 1) := by decide +kernel
theorem dX8_copyFrom_34 : decode cX8_copyFrom 34 = .ok (.getfield 32, 3) := by decide +kernel
theorem dX8_copyFrom_37 : decode cX8_copyFrom 37 = .ok (.iconst 0, 1) := by decide +kernel
theorem dX8_copyFrom_38 : decode cX8_copyFrom 38 = .ok (.aload_n 0, 1) := by decide +kernel
theorem dX8_copyFrom_39 : decode cX8_copyFrom 39 = .ok (.getfield 32, 3) := by decide +kernel
theorem dX8_copyFrom_42 : decode cX8_copyFrom 42 = .ok (.iconst 0, 1) := by decide +kernel
theorem dX8_copyFrom_43 : decode cX8_copyFrom 43 = .ok (.aload_n 0, 1) := by decide +kernel
theorem dX8_copyFrom_44 : decode cX8_copyFrom 44 = .ok (.getfield 32, 3) := by decide +kernel
theorem dX8_copyFrom_47 : decode cX8_copyFrom 47 = .ok (.arraylength, 1) := by decide +kernel
theorem dX8_copyFrom_48 : decode cX8_copyFrom 48 = .ok (.invokestatic 54, 3) := by decide +kernel
theorem dX8_copyFrom_51 : decode cX8_copyFrom 51 = .ok (.aload_n 1, 1) := by decide +kernel
theorem dX8_copyFrom_52 : decode cX8_copyFrom 52 = .ok (.getfield 37, 3) := by decide +kernel
theorem dX8_copyFrom_55 : decode cX8_copyFrom 55 = .ok (.iconst 0, 1) := by decide +kernel
theorem dX8_copyFrom_56 : decode cX8_copyFrom 56 = .ok (.aload_n 0, 1) := by decide +kernel
theorem dX8_copyFrom_57 : decode cX8_copyFrom 57 = .ok (.getfield 37, 3) := by decide +kernel
theorem dX8_copyFrom_60 : decode cX8_copyFrom 60 = .ok (.iconst 0, 1) := by decide +kernel
theorem dX8_copyFrom_61 : decode cX8_copyFrom 61 = .ok (.aload_n 0, 1) := by decide +kernel
theorem dX8_copyFrom_62 : decode cX8_copyFrom 62 = .ok (.getfield 37, 3) := by decide +kernel
theorem dX8_copyFrom_65 : decode cX8_copyFrom 65 = .ok (.arraylength, 1) := by decide +kernel
theorem dX8_copyFrom_66 : decode cX8_copyFrom 66 = .ok (.invokestatic 54, 3) := by decide +kernel
theorem dX8_copyFrom_69 : decode cX8_copyFrom 69 = .ok (.return_, 1) := by decide +kernel
theorem dX9_init_0 : decode cX9_init 0 = .ok (.aload_n 0, 1) := by decide +kernel
theorem dX9_init_1 : decode cX9_init 1 = .ok (.invokespecial 3, 3) := by decide +kernel
theorem dX9_init_4 : decode cX9_init 4 = .ok (.aload_n 0, 1) := by decide +kernel
theorem dX9_init_5 : decode cX9_init 5 = .ok (.bipush 50, 2) := by decide +kernel
theorem dX9_init_7 : decode cX9_init 7 = .ok (.newarray .int, 2) := by decide +kernel
theorem dX9_init_9 : decode cX9_init 9 = .ok (.putfield 9, 3) := by decide +kernel
theorem dX9_init_12 : decode cX9_init 12 = .ok (.aload_n 0, 1) := by decide +kernel
theorem dX9_init_13 : decode cX9_init 13 = .ok (.iconst 5, 1) := by decide +kernel
theorem dX9_init_14 : decode cX9_init 14 = .ok (.newarray .int, 2) := by decide +kernel
theorem dX9_init_16 : decode cX9_init 16 = .ok (.putfield 15, 3) := by decide +kernel
theorem dX9_init_19 : decode cX9_init 19 = .ok (.aload_n 0, 1) := by decide +kernel
theorem dX9_init_20 : decode cX9_init 20 = .ok (.iconst 5, 1) := by decide +kernel
theorem dX9_init_21 : decode cX9_init 21 = .ok (.newarray .int, 2) := by decide +kernel
theorem dX9_init_23 : decode cX9_init 23 = .ok (.putfield 18, 3) := by decide +kernel
theorem dX9_init_26 : decode cX9_init 26 = .ok (.aload_n 0, 1) := by decide +kernel
theorem dX9_init_27 : decode cX9_init 27 = .ok (.ldc 21, 2) := by decide +kernel
theorem dX9_init_29 : decode cX9_init 29 = .ok (.putfield 22, 3) := by decide +kernel
theorem dX9_init_32 : decode cX9_init 32 = .ok (.aload_n 0, 1) := by decide +kernel
theorem dX9_init_33 : decode cX9_init 33 = .ok (.ldc 21, 2) := by decide +kernel
theorem dX9_init_35 : decode cX9_init 35 = .ok (.putfield 26, 3) := by decide +kernel
theorem dX9_init_38 : decode cX9_init 38 = .ok (.return_, 1) := by decide +kernel
theorem dX9_size_0 : decode cX9_size 0 = .ok (.aload_n 0, 1) := by decide +kernel
theorem dX9_size_1 : decode cX9_size 1 = .ok (.getfield 29, 3) := by decide +kernel
theorem dX9_size_4 : decode cX9_size 4 = .ok (.ireturn, 1) := by decide +kernel
theorem dX9_clear_0 : decode cX9_clear 0 = .ok (.aload_n 0, 1) := by decide +kernel
theorem dX9_clear_1 : decode cX9_clear 1 = .ok (.iconst 0, 1) := by decide +kernel
theorem dX9_clear_2 : decode cX9_clear 2 = .ok (.putfield 29, 3) := by decide +kernel
theorem dX9_clear_5 : decode cX9_clear 5 = .ok (.return_, 1) := by decide +kernel
theorem dX9_append_0 : decode cX9_append 0 = .ok (.aload_n 0, 1) := by decide +kernel
theorem dX9_append_1 : decode cX9_append 1 = .ok (.getfield 29, 3) := by decide +kernel
theorem dX9_append_4 : decode cX9_append 4 = .ok (.bipush 50, 2) := by decide +kernel
theorem dX9_append_6 : decode cX9_append 6 = .ok (.if_icmp .ge 23, 3) := by decide +kernel
theorem dX9_append_9 : decode cX9_append 9 = .ok (.aload_n 0, 1) := by decide +kernel
theorem dX9_append_10 : decode cX9_append 10 = .ok (.getfield 9, 3) := by decide +kernel
theorem dX9_append_13 : decode cX9_append 13 = .ok (.aload_n 0, 1) := by decide +kernel
theorem dX9_append_14 : decode cX9_append 14 = .ok (.getfield 29, 3) := by decide +kernel
theorem dX9_append_17 : decode cX9_append 17 = .ok (.iload_n 1, 1) := by decide +kernel
theorem dX9_append_18 : decode cX9_append 18 = .ok (.iastore, 1) := by decide +kernel
theorem dX9_append_19 : decode cX9_append 19 = .ok (.aload_n 0, 1) := by decide +kernel
theorem dX9_append_20 : decode cX9_append 20 = .ok (.dup, 1) := by decide +kernel
theorem dX9_append_21 : decode cX9_append 21 = .ok (.getfield 29, 3) := by decide +kernel
theorem dX9_append_24 : decode cX9_append 24 = .ok (.iconst 1, 1) := by decide +kernel
theorem dX9_append_25 : decode cX9_append 25 = .ok (.iadd, 1) := by decide +kernel
theorem dX9_append_26 : decode cX9_append 26 = .ok (.putfield 29, 3) := by decide +kernel
theorem dX9_append_29 : decode cX9_append 29 = .ok (.return_, 1) := by decide +kernel
theorem dX9_at_0 : decode cX9_at 0 = .ok (.iload_n 1, 1) := by decide +kernel
theorem dX9_at_1 : decode cX9_at 1 = .ok (.ifCond .lt 20, 3) := by decide +kernel
theorem dX9_at_4 : decode cX9_at 4 = .ok (.iload_n 1, 1) := by decide +kernel
theorem dX9_at_5 : decode cX9_at 5 = .ok (.aload_n 0, 1) := by decide +kernel
theorem dX9_at_6 : decode cX9_at 6 = .ok (.getfield 29, 3) := by decide +kernel
theorem dX9_at_9 : decode cX9_at 9 = .ok (.if_icmp .ge 12, 3) := by decide +kernel
theorem dX9_at_12 : decode cX9_at 12 = .ok (.aload_n 0, 1) := by decide +kernel
theorem dX9_at_13 : decode cX9_at 13 = .ok (.getfield 9, 3) := by decide +kernel
theorem dX9_at_16 : decode cX9_at 16 = .ok (.iload_n 1, 1) := by decide +kernel
theorem dX9_at_17 : decode cX9_at 17 = .ok (.iaload, 1) := by decide +kernel
theorem dX9_at_18 : decode cX9_at 18 = .ok (.goto 5, 3) := by decide +kernel
theorem dX9_at_21 : decode cX9_at 21 = .ok (.bipush 32, 2) := by decide +kernel
theorem dX9_at_23 : decode cX9_at 23 = .ok (.ireturn, 1) := by decide +kernel
theorem dX9_readsAsCard_0 : decode cX9_readsAsCard 0 = .ok (.aload_n 0, 1) := by decide +kernel
theorem dX9_readsAsCard_1 : decode cX9_readsAsCard 1 = .ok (.iconst (-1), 1) := by decide +kernel
theorem dX9_readsAsCard_2 : decode cX9_readsAsCard 2 = .ok (.putfield 32, 3) := by decide +kernel
theorem dX9_readsAsCard_5 : decode cX9_readsAsCard 5 = .ok (.iconst 0, 1) := by decide +kernel
theorem dX9_readsAsCard_6 : decode cX9_readsAsCard 6 = .ok (.istore_n 2, 1) := by decide +kernel
theorem dX9_readsAsCard_7 : decode cX9_readsAsCard 7 = .ok (.iload_n 2, 1) := by decide +kernel
theorem dX9_readsAsCard_8 : decode cX9_readsAsCard 8 = .ok (.iconst 5, 1) := by decide +kernel
theorem dX9_readsAsCard_9 : decode cX9_readsAsCard 9 = .ok (.if_icmp .ge 16, 3) := by decide +kernel
theorem dX9_readsAsCard_12 : decode cX9_readsAsCard 12 = .ok (.aload_n 0, 1) := by decide +kernel
theorem dX9_readsAsCard_13 : decode cX9_readsAsCard 13 = .ok (.getfield 15, 3) := by decide +kernel
theorem dX9_readsAsCard_16 : decode cX9_readsAsCard 16 = .ok (.iload_n 2, 1) := by decide +kernel
theorem dX9_readsAsCard_17 : decode cX9_readsAsCard 17 = .ok (.iconst 0, 1) := by decide +kernel
theorem dX9_readsAsCard_18 : decode cX9_readsAsCard 18 = .ok (.iastore, 1) := by decide +kernel
theorem dX9_readsAsCard_19 : decode cX9_readsAsCard 19 = .ok (.iinc 2 1, 3) := by decide +kernel
theorem dX9_readsAsCard_22 : decode cX9_readsAsCard 22 = .ok (.goto (-15), 3) := by decide +kernel
theorem dX9_readsAsCard_25 : decode cX9_readsAsCard 25 = .ok (.iconst 0, 1) := by decide +kernel
theorem dX9_readsAsCard_26 : decode cX9_readsAsCard 26 = .ok (.istore_n 2, 1) := by decide +kernel
theorem dX9_readsAsCard_27 : decode cX9_readsAsCard 27 = .ok (.iload_n 2, 1) := by decide +kernel
theorem dX9_readsAsCard_28 : decode cX9_readsAsCard 28 = .ok (.aload_n 0, 1) := by decide +kernel
theorem dX9_readsAsCard_29 : decode cX9_readsAsCard 29 = .ok (.getfield 29, 3) := by decide +kernel
theorem dX9_readsAsCard_32 : decode cX9_readsAsCard 32 = .ok (.if_icmp .ge 43, 3) := by decide +kernel
theorem dX9_readsAsCard_35 : decode cX9_readsAsCard 35 = .ok (.aload_n 0, 1) := by decide +kernel
theorem dX9_readsAsCard_36 : decode cX9_readsAsCard 36 = .ok (.getfield 32, 3) := by decide +kernel
theorem dX9_readsAsCard_39 : decode cX9_readsAsCard 39 = .ok (.iconst (-1), 1) := by decide +kernel
theorem dX9_readsAsCard_40 : decode cX9_readsAsCard 40 = .ok (.if_icmp .ne 11, 3) := by decide +kernel
theorem dX9_readsAsCard_43 : decode cX9_readsAsCard 43 = .ok (.aload_n 0, 1) := by decide +kernel
theorem dX9_readsAsCard_44 : decode cX9_readsAsCard 44 = .ok (.iload_n 2, 1) := by decide +kernel
theorem dX9_readsAsCard_45 : decode cX9_readsAsCard 45 = .ok (.invokevirtual 35, 3) := by decide +kernel
theorem dX9_readsAsCard_48 : decode cX9_readsAsCard 48 = .ok (.goto 9, 3) := by decide +kernel
theorem dX9_readsAsCard_51 : decode cX9_readsAsCard 51 = .ok (.aload_n 0, 1) := by decide +kernel
theorem dX9_readsAsCard_52 : decode cX9_readsAsCard 52 = .ok (.iload_n 2, 1) := by decide +kernel
theorem dX9_readsAsCard_53 : decode cX9_readsAsCard 53 = .ok (.aload_n 1, 1) := by decide +kernel
theorem dX9_readsAsCard_54 : decode cX9_readsAsCard 54 = .ok (.invokevirtual 39, 3) := by decide +kernel
theorem dX9_readsAsCard_57 : decode cX9_readsAsCard 57 = .ok (.istore_n 3, 1) := by decide +kernel
theorem dX9_readsAsCard_58 : decode cX9_readsAsCard 58 = .ok (.iload_n 3, 1) := by decide +kernel
theorem dX9_readsAsCard_59 : decode cX9_readsAsCard 59 = .ok (.ifCond .eq 10, 3) := by decide +kernel
theorem dX9_readsAsCard_62 : decode cX9_readsAsCard 62 = .ok (.aload_n 0, 1) := by decide +kernel
theorem dX9_readsAsCard_63 : decode cX9_readsAsCard 63 = .ok (.iload_n 3, 1) := by decide +kernel
theorem dX9_readsAsCard_64 : decode cX9_readsAsCard 64 = .ok (.iload_n 2, 1) := by decide +kernel
theorem dX9_readsAsCard_65 : decode cX9_readsAsCard 65 = .ok (.invokevirtual 43, 3) := by decide +kernel
theorem dX9_readsAsCard_68 : decode cX9_readsAsCard 68 = .ok (.ireturn, 1) := by decide +kernel
theorem dX9_readsAsCard_69 : decode cX9_readsAsCard 69 = .ok (.iinc 2 1, 3) := by decide +kernel
theorem dX9_readsAsCard_72 : decode cX9_readsAsCard 72 = .ok (.goto (-45), 3) := by decide +kernel
theorem dX9_readsAsCard_75 : decode cX9_readsAsCard 75 = .ok (.aload_n 0, 1) := by decide +kernel
theorem dX9_readsAsCard_76 : decode cX9_readsAsCard 76 = .ok (.invokevirtual 47, 3) := by decide +kernel
theorem dX9_readsAsCard_79 : decode cX9_readsAsCard 79 = .ok (.ifCond .eq 10, 3) := by decide +kernel
theorem dX9_readsAsCard_82 : decode cX9_readsAsCard 82 = .ok (.aload_n 0, 1) := by decide +kernel
theorem dX9_readsAsCard_83 : decode cX9_readsAsCard 83 = .ok (.invokevirtual 51, 3) := by decide +kernel
theorem dX9_readsAsCard_86 : decode cX9_readsAsCard 86 = .ok (.ifCond .eq 13, 3) := by decide +kernel
theorem dX9_readsAsCard_89 : decode cX9_readsAsCard 89 = .ok (.aload_n 0, 1) := by decide +kernel
theorem dX9_readsAsCard_90 : decode cX9_readsAsCard 90 = .ok (.iconst 4, 1) := by decide +kernel
theorem dX9_readsAsCard_91 : decode cX9_readsAsCard 91 = .ok (.aload_n 0, 1) := by decide +kernel
theorem dX9_readsAsCard_92 : decode cX9_readsAsCard 92 = .ok (.getfield 29, 3) := by decide +kernel
theorem dX9_readsAsCard_95 : decode cX9_readsAsCard 95 = .ok (.invokevirtual 43, 3) := by decide +kernel
theorem dX9_readsAsCard_98 : decode cX9_readsAsCard 98 = .ok (.ireturn, 1) := by decide +kernel
theorem dX9_readsAsCard_99 : decode cX9_readsAsCard 99 = .ok (.iconst 1, 1) := by decide +kernel
theorem dX9_readsAsCard_100 : decode cX9_readsAsCard 100 = .ok (.ireturn, 1) := by decide +kernel
theorem dX9_noteFault_0 : decode cX9_noteFault 0 = .ok (.aload_n 0, 1) := by decide +kernel
theorem dX9_noteFault_1 : decode cX9_noteFault 1 = .ok (.iload_n 1, 1) := by decide +kernel
theorem dX9_noteFault_2 : decode cX9_noteFault 2 = .ok (.putfield 22, 3) := by decide +kernel
theorem dX9_noteFault_5 : decode cX9_noteFault 5 = .ok (.aload_n 0, 1) := by decide +kernel
theorem dX9_noteFault_6 : decode cX9_noteFault 6 = .ok (.iload_n 2, 1) := by decide +kernel
theorem dX9_noteFault_7 : decode cX9_noteFault 7 = .ok (.putfield 26, 3) := by decide +kernel
theorem dX9_noteFault_10 : decode cX9_noteFault 10 = .ok (.iconst 0, 1) := by decide +kernel
theorem dX9_noteFault_11 : decode cX9_noteFault 11 = .ok (.ireturn, 1) := by decide +kernel
theorem dX9_readBetweenWords_0 : decode cX9_readBetweenWords 0 = .ok (.aload_n 0, 1) := by decide +kernel
theorem dX9_readBetweenWords_1 : decode cX9_readBetweenWords 1 = .ok (.iload_n 1, 1) := by decide +kernel
theorem dX9_readBetweenWords_2 : decode cX9_readBetweenWords 2 = .ok (.invokevirtual 54, 3) := by decide +kernel
theorem dX9_readBetweenWords_5 : decode cX9_readBetweenWords 5 = .ok (.istore_n 2, 1) := by decide +kernel
theorem dX9_readBetweenWords_6 : decode cX9_readBetweenWords 6 = .ok (.iload_n 2, 1) := by decide +kernel
theorem dX9_readBetweenWords_7 : decode cX9_readBetweenWords 7 = .ok (.bipush 32, 2) := by decide +kernel
theorem dX9_readBetweenWords_9 : decode cX9_readBetweenWords 9 = .ok (.if_icmp .ne 5, 3) := by decide +kernel
theorem dX9_readBetweenWords_12 : decode cX9_readBetweenWords 12 = .ok (.iconst 0, 1) := by decide +kernel
theorem dX9_readBetweenWords_13 : decode cX9_readBetweenWords 13 = .ok (.ireturn, 1) := by decide +kernel
theorem dX9_readBetweenWords_14 : decode cX9_readBetweenWords 14 = .ok (.iload_n 2, 1) := by decide +kernel
theorem dX9_readBetweenWords_15 : decode cX9_readBetweenWords 15 = .ok (.invokestatic 57, 3) := by decide +kernel
theorem dX9_readBetweenWords_18 : decode cX9_readBetweenWords 18 = .ok (.istore_n 3, 1) := by decide +kernel
theorem dX9_readBetweenWords_19 : decode cX9_readBetweenWords 19 = .ok (.iload_n 3, 1) := by decide +kernel
theorem dX9_readBetweenWords_20 : decode cX9_readBetweenWords 20 = .ok (.iconst (-1), 1) := by decide +kernel
theorem dX9_readBetweenWords_21 : decode cX9_readBetweenWords 21 = .ok (.if_icmp .ne 5, 3) := by decide +kernel
theorem dX9_readBetweenWords_24 : decode cX9_readBetweenWords 24 = .ok (.iconst 1, 1) := by decide +kernel
theorem dX9_readBetweenWords_25 : decode cX9_readBetweenWords 25 = .ok (.ireturn, 1) := by decide +kernel
theorem dX9_readBetweenWords_26 : decode cX9_readBetweenWords 26 = .ok (.aload_n 0, 1) := by decide +kernel
theorem dX9_readBetweenWords_27 : decode cX9_readBetweenWords 27 = .ok (.iload_n 3, 1) := by decide +kernel
theorem dX9_readBetweenWords_28 : decode cX9_readBetweenWords 28 = .ok (.invokevirtual 60, 3) := by decide +kernel
theorem dX9_readBetweenWords_31 : decode cX9_readBetweenWords 31 = .ok (.ifCond .le 5, 3) := by decide +kernel
theorem dX9_readBetweenWords_34 : decode cX9_readBetweenWords 34 = .ok (.iconst 2, 1) := by decide +kernel
theorem dX9_readBetweenWords_35 : decode cX9_readBetweenWords 35 = .ok (.ireturn, 1) := by decide +kernel
theorem dX9_readBetweenWords_36 : decode cX9_readBetweenWords 36 = .ok (.aload_n 0, 1) := by decide +kernel
theorem dX9_readBetweenWords_37 : decode cX9_readBetweenWords 37 = .ok (.iload_n 3, 1) := by decide +kernel
theorem dX9_readBetweenWords_38 : decode cX9_readBetweenWords 38 = .ok (.putfield 32, 3) := by decide +kernel
theorem dX9_readBetweenWords_41 : decode cX9_readBetweenWords 41 = .ok (.iload_n 3, 1) := by decide +kernel
theorem dX9_readBetweenWords_42 : decode cX9_readBetweenWords 42 = .ok (.invokestatic 63, 3) := by decide +kernel
theorem dX9_readBetweenWords_45 : decode cX9_readBetweenWords 45 = .ok (.ifCond .eq 12, 3) := by decide +kernel
theorem dX9_readBetweenWords_48 : decode cX9_readBetweenWords 48 = .ok (.aload_n 0, 1) := by decide +kernel
theorem dX9_readBetweenWords_49 : decode cX9_readBetweenWords 49 = .ok (.getfield 18, 3) := by decide +kernel
theorem dX9_readBetweenWords_52 : decode cX9_readBetweenWords 52 = .ok (.iload_n 3, 1) := by decide +kernel
theorem dX9_readBetweenWords_53 : decode cX9_readBetweenWords 53 = .ok (.iload_n 1, 1) := by decide +kernel
theorem dX9_readBetweenWords_54 : decode cX9_readBetweenWords 54 = .ok (.iconst 1, 1) := by decide +kernel
theorem dX9_readBetweenWords_55 : decode cX9_readBetweenWords 55 = .ok (.iadd, 1) := by decide +kernel
theorem dX9_readBetweenWords_56 : decode cX9_readBetweenWords 56 = .ok (.iastore, 1) := by decide +kernel
theorem dX9_readBetweenWords_57 : decode cX9_readBetweenWords 57 = .ok (.iconst 0, 1) := by decide +kernel
theorem dX9_readBetweenWords_58 : decode cX9_readBetweenWords 58 = .ok (.ireturn, 1) := by decide +kernel
theorem dX9_readInWord_0 : decode cX9_readInWord 0 = .ok (.aload_n 0, 1) := by decide +kernel
theorem dX9_readInWord_1 : decode cX9_readInWord 1 = .ok (.iload_n 1, 1) := by decide +kernel
theorem dX9_readInWord_2 : decode cX9_readInWord 2 = .ok (.invokevirtual 54, 3) := by decide +kernel
theorem dX9_readInWord_5 : decode cX9_readInWord 5 = .ok (.istore_n 3, 1) := by decide +kernel
theorem dX9_readInWord_6 : decode cX9_readInWord 6 = .ok (.iload_n 3, 1) := by decide +kernel
theorem dX9_readInWord_7 : decode cX9_readInWord 7 = .ok (.bipush 48, 2) := by decide +kernel
theorem dX9_readInWord_9 : decode cX9_readInWord 9 = .ok (.bipush 57, 2) := by decide +kernel
theorem dX9_readInWord_11 : decode cX9_readInWord 11 = .ok (.invokestatic 67, 3) := by decide +kernel
theorem dX9_readInWord_14 : decode cX9_readInWord 14 = .ok (.ifCond .eq 16, 3) := by decide +kernel
theorem dX9_readInWord_17 : decode cX9_readInWord 17 = .ok (.aload_n 0, 1) := by decide +kernel
theorem dX9_readInWord_18 : decode cX9_readInWord 18 = .ok (.aload_n 2, 1) := by decide +kernel
theorem dX9_readInWord_19 : decode cX9_readInWord 19 = .ok (.aload_n 0, 1) := by decide +kernel
theorem dX9_readInWord_20 : decode cX9_readInWord 20 = .ok (.getfield 32, 3) := by decide +kernel
theorem dX9_readInWord_23 : decode cX9_readInWord 23 = .ok (.invokevirtual 71, 3) := by decide +kernel
theorem dX9_readInWord_26 : decode cX9_readInWord 26 = .ok (.invokevirtual 76, 3) := by decide +kernel
theorem dX9_readInWord_29 : decode cX9_readInWord 29 = .ok (.ireturn, 1) := by decide +kernel
theorem dX9_readInWord_30 : decode cX9_readInWord 30 = .ok (.iload_n 3, 1) := by decide +kernel
theorem dX9_readInWord_31 : decode cX9_readInWord 31 = .ok (.bipush 32, 2) := by decide +kernel
theorem dX9_readInWord_33 : decode cX9_readInWord 33 = .ok (.if_icmp .ne 21, 3) := by decide +kernel
theorem dX9_readInWord_36 : decode cX9_readInWord 36 = .ok (.aload_n 0, 1) := by decide +kernel
theorem dX9_readInWord_37 : decode cX9_readInWord 37 = .ok (.aload_n 0, 1) := by decide +kernel
theorem dX9_readInWord_38 : decode cX9_readInWord 38 = .ok (.getfield 32, 3) := by decide +kernel
theorem dX9_readInWord_41 : decode cX9_readInWord 41 = .ok (.invokevirtual 60, 3) := by decide +kernel
theorem dX9_readInWord_44 : decode cX9_readInWord 44 = .ok (.ifCond .le 10, 3) := by decide +kernel
theorem dX9_readInWord_47 : decode cX9_readInWord 47 = .ok (.aload_n 0, 1) := by decide +kernel
theorem dX9_readInWord_48 : decode cX9_readInWord 48 = .ok (.iconst (-1), 1) := by decide +kernel
theorem dX9_readInWord_49 : decode cX9_readInWord 49 = .ok (.putfield 32, 3) := by decide +kernel
theorem dX9_readInWord_52 : decode cX9_readInWord 52 = .ok (.iconst 0, 1) := by decide +kernel
theorem dX9_readInWord_53 : decode cX9_readInWord 53 = .ok (.ireturn, 1) := by decide +kernel
theorem dX9_readInWord_54 : decode cX9_readInWord 54 = .ok (.iconst 1, 1) := by decide +kernel
theorem dX9_readInWord_55 : decode cX9_readInWord 55 = .ok (.ireturn, 1) := by decide +kernel
theorem dX9_countDigit_0 : decode cX9_countDigit 0 = .ok (.aload_n 0, 1) := by decide +kernel
theorem dX9_countDigit_1 : decode cX9_countDigit 1 = .ok (.aload_n 0, 1) := by decide +kernel
theorem dX9_countDigit_2 : decode cX9_countDigit 2 = .ok (.getfield 32, 3) := by decide +kernel
theorem dX9_countDigit_5 : decode cX9_countDigit 5 = .ok (.invokevirtual 60, 3) := by decide +kernel
theorem dX9_countDigit_8 : decode cX9_countDigit 8 = .ok (.iload_n 1, 1) := by decide +kernel
theorem dX9_countDigit_9 : decode cX9_countDigit 9 = .ok (.if_icmp .lt 5, 3) := by decide +kernel
theorem dX9_countDigit_12 : decode cX9_countDigit 12 = .ok (.iconst 3, 1) := by decide +kernel
theorem dX9_countDigit_13 : decode cX9_countDigit 13 = .ok (.ireturn, 1) := by decide +kernel
theorem dX9_countDigit_14 : decode cX9_countDigit 14 = .ok (.aload_n 0, 1) := by decide +kernel
theorem dX9_countDigit_15 : decode cX9_countDigit 15 = .ok (.getfield 32, 3) := by decide +kernel
theorem dX9_countDigit_18 : decode cX9_countDigit 18 = .ok (.invokestatic 63, 3) := by decide +kernel
theorem dX9_countDigit_21 : decode cX9_countDigit 21 = .ok (.ifCond .eq 16, 3) := by decide +kernel
theorem dX9_countDigit_24 : decode cX9_countDigit 24 = .ok (.aload_n 0, 1) := by decide +kernel
theorem dX9_countDigit_25 : decode cX9_countDigit 25 = .ok (.getfield 15, 3) := by decide +kernel
theorem dX9_countDigit_28 : decode cX9_countDigit 28 = .ok (.aload_n 0, 1) := by decide +kernel
theorem dX9_countDigit_29 : decode cX9_countDigit 29 = .ok (.getfield 32, 3) := by decide +kernel
theorem dX9_countDigit_32 : decode cX9_countDigit 32 = .ok (.dup2, 1) := by decide +kernel
theorem dX9_countDigit_33 : decode cX9_countDigit 33 = .ok (.iaload, 1) := by decide +kernel
theorem dX9_countDigit_34 : decode cX9_countDigit 34 = .ok (.iconst 1, 1) := by decide +kernel
theorem dX9_countDigit_35 : decode cX9_countDigit 35 = .ok (.iadd, 1) := by decide +kernel
theorem dX9_countDigit_36 : decode cX9_countDigit 36 = .ok (.iastore, 1) := by decide +kernel
theorem dX9_countDigit_37 : decode cX9_countDigit 37 = .ok (.iconst 0, 1) := by decide +kernel
theorem dX9_countDigit_38 : decode cX9_countDigit 38 = .ok (.ireturn, 1) := by decide +kernel
theorem dX9_hasWord_0 : decode cX9_hasWord 0 = .ok (.iconst 0, 1) := by decide +kernel
theorem dX9_hasWord_1 : decode cX9_hasWord 1 = .ok (.istore_n 1, 1) := by decide +kernel
theorem dX9_hasWord_2 : decode cX9_hasWord 2 = .ok (.iload_n 1, 1) := by decide +kernel
theorem dX9_hasWord_3 : decode cX9_hasWord 3 = .ok (.iconst 5, 1) := by decide +kernel
theorem dX9_hasWord_4 : decode cX9_hasWord 4 = .ok (.if_icmp .ge 20, 3) := by decide +kernel
theorem dX9_hasWord_7 : decode cX9_hasWord 7 = .ok (.aload_n 0, 1) := by decide +kernel
theorem dX9_hasWord_8 : decode cX9_hasWord 8 = .ok (.getfield 15, 3) := by decide +kernel
theorem dX9_hasWord_11 : decode cX9_hasWord 11 = .ok (.iload_n 1, 1) := by decide +kernel
theorem dX9_hasWord_12 : decode cX9_hasWord 12 = .ok (.iaload, 1) := by decide +kernel
theorem dX9_hasWord_13 : decode cX9_hasWord 13 = .ok (.ifCond .le 5, 3) := by decide +kernel
theorem dX9_hasWord_16 : decode cX9_hasWord 16 = .ok (.iconst 1, 1) := by decide +kernel
theorem dX9_hasWord_17 : decode cX9_hasWord 17 = .ok (.ireturn, 1) := by decide +kernel
theorem dX9_hasWord_18 : decode cX9_hasWord 18 = .ok (.iinc 1 1, 3) := by decide +kernel
theorem dX9_hasWord_21 : decode cX9_hasWord 21 = .ok (.goto (-19), 3) := by decide +kernel
theorem dX9_hasWord_24 : decode cX9_hasWord 24 = .ok (.iconst 0, 1) := by decide +kernel
theorem dX9_hasWord_25 : decode cX9_hasWord 25 = .ok (.ireturn, 1) := by decide +kernel
theorem dX9_endsBehindLetter_0 : decode cX9_endsBehindLetter 0 = .ok (.aload_n 0, 1) := by decide +kernel
theorem dX9_endsBehindLetter_1 : decode cX9_endsBehindLetter 1 = .ok (.getfield 32, 3) := by decide +kernel
theorem dX9_endsBehindLetter_4 : decode cX9_endsBehindLetter 4 = .ok (.iconst (-1), 1) := by decide +kernel
theorem dX9_endsBehindLetter_5 : decode cX9_endsBehindLetter 5 = .ok (.if_icmp .eq 18, 3) := by decide +kernel
theorem dX9_endsBehindLetter_8 : decode cX9_endsBehindLetter 8 = .ok (.aload_n 0, 1) := by decide +kernel
theorem dX9_endsBehindLetter_9 : decode cX9_endsBehindLetter 9 = .ok (.aload_n 0, 1) := by decide +kernel
theorem dX9_endsBehindLetter_10 : decode cX9_endsBehindLetter 10 = .ok (.getfield 32, 3) := by decide +kernel
theorem dX9_endsBehindLetter_13 : decode cX9_endsBehindLetter 13 = .ok (.invokevirtual 60, 3) := by decide +kernel
theorem dX9_endsBehindLetter_16 : decode cX9_endsBehindLetter 16 = .ok (.ifCond .ne 7, 3) := by decide +kernel
theorem dX9_endsBehindLetter_19 : decode cX9_endsBehindLetter 19 = .ok (.iconst 1, 1) := by decide +kernel
theorem dX9_endsBehindLetter_20 : decode cX9_endsBehindLetter 20 = .ok (.goto 4, 3) := by decide +kernel
theorem dX9_endsBehindLetter_23 : decode cX9_endsBehindLetter 23 = .ok (.iconst 0, 1) := by decide +kernel
theorem dX9_endsBehindLetter_24 : decode cX9_endsBehindLetter 24 = .ok (.ireturn, 1) := by decide +kernel
theorem dX9_digitsOf_0 : decode cX9_digitsOf 0 = .ok (.iload_n 1, 1) := by decide +kernel
theorem dX9_digitsOf_1 : decode cX9_digitsOf 1 = .ok (.invokestatic 63, 3) := by decide +kernel
theorem dX9_digitsOf_4 : decode cX9_digitsOf 4 = .ok (.ifCond .eq 12, 3) := by decide +kernel
theorem dX9_digitsOf_7 : decode cX9_digitsOf 7 = .ok (.aload_n 0, 1) := by decide +kernel
theorem dX9_digitsOf_8 : decode cX9_digitsOf 8 = .ok (.getfield 15, 3) := by decide +kernel
theorem dX9_digitsOf_11 : decode cX9_digitsOf 11 = .ok (.iload_n 1, 1) := by decide +kernel
theorem dX9_digitsOf_12 : decode cX9_digitsOf 12 = .ok (.iaload, 1) := by decide +kernel
theorem dX9_digitsOf_13 : decode cX9_digitsOf 13 = .ok (.goto 4, 3) := by decide +kernel
theorem dX9_digitsOf_16 : decode cX9_digitsOf 16 = .ok (.iconst 0, 1) := by decide +kernel
theorem dX9_digitsOf_17 : decode cX9_digitsOf 17 = .ok (.ireturn, 1) := by decide +kernel
theorem dX9_isTextField_0 : decode cX9_isTextField 0 = .ok (.iload_n 0, 1) := by decide +kernel
theorem dX9_isTextField_1 : decode cX9_isTextField 1 = .ok (.ifCond .lt 12, 3) := by decide +kernel
theorem dX9_isTextField_4 : decode cX9_isTextField 4 = .ok (.iload_n 0, 1) := by decide +kernel
theorem dX9_isTextField_5 : decode cX9_isTextField 5 = .ok (.iconst 5, 1) := by decide +kernel
theorem dX9_isTextField_6 : decode cX9_isTextField 6 = .ok (.if_icmp .ge 7, 3) := by decide +kernel
theorem dX9_isTextField_9 : decode cX9_isTextField 9 = .ok (.iconst 1, 1) := by decide +kernel
theorem dX9_isTextField_10 : decode cX9_isTextField 10 = .ok (.goto 4, 3) := by decide +kernel
theorem dX9_isTextField_13 : decode cX9_isTextField 13 = .ok (.iconst 0, 1) := by decide +kernel
theorem dX9_isTextField_14 : decode cX9_isTextField 14 = .ok (.ireturn, 1) := by decide +kernel
theorem dX9_fieldOf_0 : decode cX9_fieldOf 0 = .ok (.iload_n 0, 1) := by decide +kernel
theorem dX9_fieldOf_1 : decode cX9_fieldOf 1 = .ok (.lookupswitch 61 #[(100, 51), (103, 53), (104, 57), (114, 59), (119, 55)], 51) := by decide +kernel
theorem dX9_fieldOf_52 : decode cX9_fieldOf 52 = .ok (.iconst 0, 1) := by decide +kernel
theorem dX9_fieldOf_53 : decode cX9_fieldOf 53 = .ok (.ireturn, 1) := by decide +kernel
theorem dX9_fieldOf_54 : decode cX9_fieldOf 54 = .ok (.iconst 1, 1) := by decide +kernel
theorem dX9_fieldOf_55 : decode cX9_fieldOf 55 = .ok (.ireturn, 1) := by decide +kernel
theorem dX9_fieldOf_56 : decode cX9_fieldOf 56 = .ok (.iconst 2, 1) := by decide +kernel
theorem dX9_fieldOf_57 : decode cX9_fieldOf 57 = .ok (.ireturn, 1) := by decide +kernel
theorem dX9_fieldOf_58 : decode cX9_fieldOf 58 = .ok (.iconst 3, 1) := by decide +kernel
theorem dX9_fieldOf_59 : decode cX9_fieldOf 59 = .ok (.ireturn, 1) := by decide +kernel
theorem dX9_fieldOf_60 : decode cX9_fieldOf 60 = .ok (.iconst 4, 1) := by decide +kernel
theorem dX9_fieldOf_61 : decode cX9_fieldOf 61 = .ok (.ireturn, 1) := by decide +kernel
theorem dX9_fieldOf_62 : decode cX9_fieldOf 62 = .ok (.iconst (-1), 1) := by decide +kernel
theorem dX9_fieldOf_63 : decode cX9_fieldOf 63 = .ok (.ireturn, 1) := by decide +kernel
theorem dX9_punchOn_0 : decode cX9_punchOn 0 = .ok (.iconst 0, 1) := by decide +kernel
theorem dX9_punchOn_1 : decode cX9_punchOn 1 = .ok (.istore_n 3, 1) := by decide +kernel
theorem dX9_punchOn_2 : decode cX9_punchOn 2 = .ok (.iload_n 3, 1) := by decide +kernel
theorem dX9_punchOn_3 : decode cX9_punchOn 3 = .ok (.iconst 5, 1) := by decide +kernel
theorem dX9_punchOn_4 : decode cX9_punchOn 4 = .ok (.if_icmp .ge 25, 3) := by decide +kernel
theorem dX9_punchOn_7 : decode cX9_punchOn 7 = .ok (.aload_n 0, 1) := by decide +kernel
theorem dX9_punchOn_8 : decode cX9_punchOn 8 = .ok (.getfield 15, 3) := by decide +kernel
theorem dX9_punchOn_11 : decode cX9_punchOn 11 = .ok (.iload_n 3, 1) := by decide +kernel
theorem dX9_punchOn_12 : decode cX9_punchOn 12 = .ok (.iaload, 1) := by decide +kernel
theorem dX9_punchOn_13 : decode cX9_punchOn 13 = .ok (.ifCond .le 10, 3) := by decide +kernel
theorem dX9_punchOn_16 : decode cX9_punchOn 16 = .ok (.aload_n 0, 1) := by decide +kernel
theorem dX9_punchOn_17 : decode cX9_punchOn 17 = .ok (.aload_n 1, 1) := by decide +kernel
theorem dX9_punchOn_18 : decode cX9_punchOn 18 = .ok (.aload_n 2, 1) := by decide +kernel
theorem dX9_punchOn_19 : decode cX9_punchOn 19 = .ok (.iload_n 3, 1) := by decide +kernel
theorem dX9_punchOn_20 : decode cX9_punchOn 20 = .ok (.invokevirtual 79, 3) := by decide +kernel
theorem dX9_punchOn_23 : decode cX9_punchOn 23 = .ok (.iinc 3 1, 3) := by decide +kernel
theorem dX9_punchOn_26 : decode cX9_punchOn 26 = .ok (.goto (-24), 3) := by decide +kernel
theorem dX9_punchOn_29 : decode cX9_punchOn 29 = .ok (.return_, 1) := by decide +kernel
theorem dX9_punchNumber_0 : decode cX9_punchNumber 0 = .ok (.aload_n 2, 1) := by decide +kernel
theorem dX9_punchNumber_1 : decode cX9_punchNumber 1 = .ok (.iload_n 3, 1) := by decide +kernel
theorem dX9_punchNumber_2 : decode cX9_punchNumber 2 = .ok (.invokevirtual 71, 3) := by decide +kernel
theorem dX9_punchNumber_5 : decode cX9_punchNumber 5 = .ok (.istore 4, 2) := by decide +kernel
theorem dX9_punchNumber_7 : decode cX9_punchNumber 7 = .ok (.iload 4, 2) := by decide +kernel
theorem dX9_punchNumber_9 : decode cX9_punchNumber 9 = .ok (.aload_n 0, 1) := by decide +kernel
theorem dX9_punchNumber_10 : decode cX9_punchNumber 10 = .ok (.iload_n 3, 1) := by decide +kernel
theorem dX9_punchNumber_11 : decode cX9_punchNumber 11 = .ok (.invokevirtual 60, 3) := by decide +kernel
theorem dX9_punchNumber_14 : decode cX9_punchNumber 14 = .ok (.isub, 1) := by decide +kernel
theorem dX9_punchNumber_15 : decode cX9_punchNumber 15 = .ok (.istore 5, 2) := by decide +kernel
theorem dX9_punchNumber_17 : decode cX9_punchNumber 17 = .ok (.iconst 0, 1) := by decide +kernel
theorem dX9_punchNumber_18 : decode cX9_punchNumber 18 = .ok (.istore 6, 2) := by decide +kernel
theorem dX9_punchNumber_20 : decode cX9_punchNumber 20 = .ok (.iload 6, 2) := by decide +kernel
theorem dX9_punchNumber_22 : decode cX9_punchNumber 22 = .ok (.iload 4, 2) := by decide +kernel
theorem dX9_punchNumber_24 : decode cX9_punchNumber 24 = .ok (.if_icmp .ge 55, 3) := by decide +kernel
theorem dX9_punchNumber_27 : decode cX9_punchNumber 27 = .ok (.iload 6, 2) := by decide +kernel
theorem dX9_punchNumber_29 : decode cX9_punchNumber 29 = .ok (.iload 5, 2) := by decide +kernel
theorem dX9_punchNumber_31 : decode cX9_punchNumber 31 = .ok (.if_icmp .ge 7, 3) := by decide +kernel
theorem dX9_punchNumber_34 : decode cX9_punchNumber 34 = .ok (.iconst 0, 1) := by decide +kernel
theorem dX9_punchNumber_35 : decode cX9_punchNumber 35 = .ok (.goto 22, 3) := by decide +kernel
theorem dX9_punchNumber_38 : decode cX9_punchNumber 38 = .ok (.aload_n 0, 1) := by decide +kernel
theorem dX9_punchNumber_39 : decode cX9_punchNumber 39 = .ok (.aload_n 0, 1) := by decide +kernel
theorem dX9_punchNumber_40 : decode cX9_punchNumber 40 = .ok (.getfield 18, 3) := by decide +kernel
theorem dX9_punchNumber_43 : decode cX9_punchNumber 43 = .ok (.iload_n 3, 1) := by decide +kernel
theorem dX9_punchNumber_44 : decode cX9_punchNumber 44 = .ok (.iaload, 1) := by decide +kernel
theorem dX9_punchNumber_45 : decode cX9_punchNumber 45 = .ok (.iload 6, 2) := by decide +kernel
theorem dX9_punchNumber_47 : decode cX9_punchNumber 47 = .ok (.iadd, 1) := by decide +kernel
theorem dX9_punchNumber_48 : decode cX9_punchNumber 48 = .ok (.iload 5, 2) := by decide +kernel
theorem dX9_punchNumber_50 : decode cX9_punchNumber 50 = .ok (.isub, 1) := by decide +kernel
theorem dX9_punchNumber_51 : decode cX9_punchNumber 51 = .ok (.invokevirtual 54, 3) := by decide +kernel
theorem dX9_punchNumber_54 : decode cX9_punchNumber 54 = .ok (.bipush 48, 2) := by decide +kernel
theorem dX9_punchNumber_56 : decode cX9_punchNumber 56 = .ok (.isub, 1) := by decide +kernel
theorem dX9_punchNumber_57 : decode cX9_punchNumber 57 = .ok (.istore 7, 2) := by decide +kernel
theorem dX9_punchNumber_59 : decode cX9_punchNumber 59 = .ok (.aload_n 1, 1) := by decide +kernel
theorem dX9_punchNumber_60 : decode cX9_punchNumber 60 = .ok (.aload_n 2, 1) := by decide +kernel
theorem dX9_punchNumber_61 : decode cX9_punchNumber 61 = .ok (.iload_n 3, 1) := by decide +kernel
theorem dX9_punchNumber_62 : decode cX9_punchNumber 62 = .ok (.invokevirtual 83, 3) := by decide +kernel
theorem dX9_punchNumber_65 : decode cX9_punchNumber 65 = .ok (.iload 6, 2) := by decide +kernel
theorem dX9_punchNumber_67 : decode cX9_punchNumber 67 = .ok (.iadd, 1) := by decide +kernel
theorem dX9_punchNumber_68 : decode cX9_punchNumber 68 = .ok (.iload 7, 2) := by decide +kernel
theorem dX9_punchNumber_70 : decode cX9_punchNumber 70 = .ok (.invokevirtual 86, 3) := by decide +kernel
theorem dX9_punchNumber_73 : decode cX9_punchNumber 73 = .ok (.iinc 6 1, 3) := by decide +kernel
theorem dX9_punchNumber_76 : decode cX9_punchNumber 76 = .ok (.goto (-56), 3) := by decide +kernel
theorem dX9_punchNumber_79 : decode cX9_punchNumber 79 = .ok (.return_, 1) := by decide +kernel
theorem dX10_init_0 : decode cX10_init 0 = .ok (.aload_n 0, 1) := by decide +kernel
theorem dX10_init_1 : decode cX10_init 1 = .ok (.invokespecial 3, 3) := by decide +kernel
theorem dX10_init_4 : decode cX10_init 4 = .ok (.return_, 1) := by decide +kernel
theorem dX10_keyOf_0 : decode cX10_keyOf 0 = .ok (.iload_n 0, 1) := by decide +kernel
theorem dX10_keyOf_1 : decode cX10_keyOf 1 = .ok (.i2l, 1) := by decide +kernel
theorem dX10_keyOf_2 : decode cX10_keyOf 2 = .ok (.ldc2_w 9, 3) := by decide +kernel
theorem dX10_keyOf_5 : decode cX10_keyOf 5 = .ok (.lmul, 1) := by decide +kernel
theorem dX10_keyOf_6 : decode cX10_keyOf 6 = .ok (.iload_n 1, 1) := by decide +kernel
theorem dX10_keyOf_7 : decode cX10_keyOf 7 = .ok (.i2l, 1) := by decide +kernel
theorem dX10_keyOf_8 : decode cX10_keyOf 8 = .ok (.ladd, 1) := by decide +kernel
theorem dX10_keyOf_9 : decode cX10_keyOf 9 = .ok (.ldc2_w 9, 3) := by decide +kernel
theorem dX10_keyOf_12 : decode cX10_keyOf 12 = .ok (.lmul, 1) := by decide +kernel
theorem dX10_keyOf_13 : decode cX10_keyOf 13 = .ok (.iload_n 2, 1) := by decide +kernel
theorem dX10_keyOf_14 : decode cX10_keyOf 14 = .ok (.i2l, 1) := by decide +kernel
theorem dX10_keyOf_15 : decode cX10_keyOf 15 = .ok (.ladd, 1) := by decide +kernel
theorem dX10_keyOf_16 : decode cX10_keyOf 16 = .ok (.lreturn, 1) := by decide +kernel
theorem dX10_key_0 : decode cX10_key 0 = .ok (.aload_n 0, 1) := by decide +kernel
theorem dX10_key_1 : decode cX10_key 1 = .ok (.getfield 11, 3) := by decide +kernel
theorem dX10_key_4 : decode cX10_key 4 = .ok (.aload_n 0, 1) := by decide +kernel
theorem dX10_key_5 : decode cX10_key 5 = .ok (.getfield 17, 3) := by decide +kernel
theorem dX10_key_8 : decode cX10_key 8 = .ok (.aload_n 0, 1) := by decide +kernel
theorem dX10_key_9 : decode cX10_key 9 = .ok (.getfield 20, 3) := by decide +kernel
theorem dX10_key_12 : decode cX10_key 12 = .ok (.invokestatic 23, 3) := by decide +kernel
theorem dX10_key_15 : decode cX10_key 15 = .ok (.lreturn, 1) := by decide +kernel
theorem dX10_clear_0 : decode cX10_clear 0 = .ok (.aload_n 0, 1) := by decide +kernel
theorem dX10_clear_1 : decode cX10_clear 1 = .ok (.iconst 0, 1) := by decide +kernel
theorem dX10_clear_2 : decode cX10_clear 2 = .ok (.putfield 11, 3) := by decide +kernel
theorem dX10_clear_5 : decode cX10_clear 5 = .ok (.aload_n 0, 1) := by decide +kernel
theorem dX10_clear_6 : decode cX10_clear 6 = .ok (.iconst 0, 1) := by decide +kernel
theorem dX10_clear_7 : decode cX10_clear 7 = .ok (.putfield 17, 3) := by decide +kernel
theorem dX10_clear_10 : decode cX10_clear 10 = .ok (.aload_n 0, 1) := by decide +kernel
theorem dX10_clear_11 : decode cX10_clear 11 = .ok (.iconst 0, 1) := by decide +kernel
theorem dX10_clear_12 : decode cX10_clear 12 = .ok (.putfield 20, 3) := by decide +kernel
theorem dX10_clear_15 : decode cX10_clear 15 = .ok (.aload_n 0, 1) := by decide +kernel
theorem dX10_clear_16 : decode cX10_clear 16 = .ok (.iconst 0, 1) := by decide +kernel
theorem dX10_clear_17 : decode cX10_clear 17 = .ok (.putfield 27, 3) := by decide +kernel
theorem dX10_clear_20 : decode cX10_clear 20 = .ok (.aload_n 0, 1) := by decide +kernel
theorem dX10_clear_21 : decode cX10_clear 21 = .ok (.iconst 0, 1) := by decide +kernel
theorem dX10_clear_22 : decode cX10_clear 22 = .ok (.putfield 30, 3) := by decide +kernel
theorem dX10_clear_25 : decode cX10_clear 25 = .ok (.aload_n 0, 1) := by decide +kernel
theorem dX10_clear_26 : decode cX10_clear 26 = .ok (.iconst 0, 1) := by decide +kernel
theorem dX10_clear_27 : decode cX10_clear 27 = .ok (.putfield 33, 3) := by decide +kernel
theorem dX10_clear_30 : decode cX10_clear 30 = .ok (.aload_n 0, 1) := by decide +kernel
theorem dX10_clear_31 : decode cX10_clear 31 = .ok (.iconst 0, 1) := by decide +kernel
theorem dX10_clear_32 : decode cX10_clear 32 = .ok (.putfield 36, 3) := by decide +kernel
theorem dX10_clear_35 : decode cX10_clear 35 = .ok (.aload_n 0, 1) := by decide +kernel
theorem dX10_clear_36 : decode cX10_clear 36 = .ok (.iconst 0, 1) := by decide +kernel
theorem dX10_clear_37 : decode cX10_clear 37 = .ok (.putfield 39, 3) := by decide +kernel
theorem dX10_clear_40 : decode cX10_clear 40 = .ok (.return_, 1) := by decide +kernel
theorem dX10_fillFrom_0 : decode cX10_fillFrom 0 = .ok (.aload_n 0, 1) := by decide +kernel
theorem dX10_fillFrom_1 : decode cX10_fillFrom 1 = .ok (.aload_n 2, 1) := by decide +kernel
theorem dX10_fillFrom_2 : decode cX10_fillFrom 2 = .ok (.aload_n 1, 1) := by decide +kernel
theorem dX10_fillFrom_3 : decode cX10_fillFrom 3 = .ok (.iconst 0, 1) := by decide +kernel
theorem dX10_fillFrom_4 : decode cX10_fillFrom 4 = .ok (.invokevirtual 42, 3) := by decide +kernel
theorem dX10_fillFrom_7 : decode cX10_fillFrom 7 = .ok (.putfield 11, 3) := by decide +kernel
theorem dX10_fillFrom_10 : decode cX10_fillFrom 10 = .ok (.aload_n 0, 1) := by decide +kernel
theorem dX10_fillFrom_11 : decode cX10_fillFrom 11 = .ok (.aload_n 2, 1) := by decide +kernel
theorem dX10_fillFrom_12 : decode cX10_fillFrom 12 = .ok (.aload_n 1, 1) := by decide +kernel
theorem dX10_fillFrom_13 : decode cX10_fillFrom 13 = .ok (.iconst 1, 1) := by decide +kernel
theorem dX10_fillFrom_14 : decode cX10_fillFrom 14 = .ok (.invokevirtual 42, 3) := by decide +kernel
theorem dX10_fillFrom_17 : decode cX10_fillFrom 17 = .ok (.putfield 17, 3) := by decide +kernel
theorem dX10_fillFrom_20 : decode cX10_fillFrom 20 = .ok (.aload_n 0, 1) := by decide +kernel
theorem dX10_fillFrom_21 : decode cX10_fillFrom 21 = .ok (.aload_n 2, 1) := by decide +kernel
theorem dX10_fillFrom_22 : decode cX10_fillFrom 22 = .ok (.aload_n 1, 1) := by decide +kernel
theorem dX10_fillFrom_23 : decode cX10_fillFrom 23 = .ok (.iconst 2, 1) := by decide +kernel
theorem dX10_fillFrom_24 : decode cX10_fillFrom 24 = .ok (.invokevirtual 42, 3) := by decide +kernel
theorem dX10_fillFrom_27 : decode cX10_fillFrom 27 = .ok (.putfield 20, 3) := by decide +kernel
theorem dX10_fillFrom_30 : decode cX10_fillFrom 30 = .ok (.aload_n 0, 1) := by decide +kernel
theorem dX10_fillFrom_31 : decode cX10_fillFrom 31 = .ok (.aload_n 2, 1) := by decide +kernel
theorem dX10_fillFrom_32 : decode cX10_fillFrom 32 = .ok (.aload_n 1, 1) := by decide +kernel
theorem dX10_fillFrom_33 : decode cX10_fillFrom 33 = .ok (.iconst 3, 1) := by decide +kernel
theorem dX10_fillFrom_34 : decode cX10_fillFrom 34 = .ok (.invokevirtual 42, 3) := by decide +kernel
theorem dX10_fillFrom_37 : decode cX10_fillFrom 37 = .ok (.putfield 33, 3) := by decide +kernel
theorem dX10_fillFrom_40 : decode cX10_fillFrom 40 = .ok (.aload_n 0, 1) := by decide +kernel
theorem dX10_fillFrom_41 : decode cX10_fillFrom 41 = .ok (.aload_n 2, 1) := by decide +kernel
theorem dX10_fillFrom_42 : decode cX10_fillFrom 42 = .ok (.aload_n 1, 1) := by decide +kernel
theorem dX10_fillFrom_43 : decode cX10_fillFrom 43 = .ok (.iconst 4, 1) := by decide +kernel
theorem dX10_fillFrom_44 : decode cX10_fillFrom 44 = .ok (.invokevirtual 42, 3) := by decide +kernel
theorem dX10_fillFrom_47 : decode cX10_fillFrom 47 = .ok (.putfield 27, 3) := by decide +kernel
theorem dX10_fillFrom_50 : decode cX10_fillFrom 50 = .ok (.aload_n 0, 1) := by decide +kernel
theorem dX10_fillFrom_51 : decode cX10_fillFrom 51 = .ok (.getfield 11, 3) := by decide +kernel
theorem dX10_fillFrom_54 : decode cX10_fillFrom 54 = .ok (.ldc 48, 2) := by decide +kernel
theorem dX10_fillFrom_56 : decode cX10_fillFrom 56 = .ok (.if_icmp .eq 39, 3) := by decide +kernel
theorem dX10_fillFrom_59 : decode cX10_fillFrom 59 = .ok (.aload_n 0, 1) := by decide +kernel
theorem dX10_fillFrom_60 : decode cX10_fillFrom 60 = .ok (.getfield 17, 3) := by decide +kernel
theorem dX10_fillFrom_63 : decode cX10_fillFrom 63 = .ok (.ldc 48, 2) := by decide +kernel
theorem dX10_fillFrom_65 : decode cX10_fillFrom 65 = .ok (.if_icmp .eq 30, 3) := by decide +kernel
theorem dX10_fillFrom_68 : decode cX10_fillFrom 68 = .ok (.aload_n 0, 1) := by decide +kernel
theorem dX10_fillFrom_69 : decode cX10_fillFrom 69 = .ok (.getfield 20, 3) := by decide +kernel
theorem dX10_fillFrom_72 : decode cX10_fillFrom 72 = .ok (.ldc 48, 2) := by decide +kernel
theorem dX10_fillFrom_74 : decode cX10_fillFrom 74 = .ok (.if_icmp .eq 21, 3) := by decide +kernel
theorem dX10_fillFrom_77 : decode cX10_fillFrom 77 = .ok (.aload_n 0, 1) := by decide +kernel
theorem dX10_fillFrom_78 : decode cX10_fillFrom 78 = .ok (.getfield 33, 3) := by decide +kernel
theorem dX10_fillFrom_81 : decode cX10_fillFrom 81 = .ok (.ldc 48, 2) := by decide +kernel
theorem dX10_fillFrom_83 : decode cX10_fillFrom 83 = .ok (.if_icmp .eq 12, 3) := by decide +kernel
theorem dX10_fillFrom_86 : decode cX10_fillFrom 86 = .ok (.aload_n 0, 1) := by decide +kernel
theorem dX10_fillFrom_87 : decode cX10_fillFrom 87 = .ok (.getfield 27, 3) := by decide +kernel
theorem dX10_fillFrom_90 : decode cX10_fillFrom 90 = .ok (.ldc 48, 2) := by decide +kernel
theorem dX10_fillFrom_92 : decode cX10_fillFrom 92 = .ok (.if_icmp .ne 5, 3) := by decide +kernel
theorem dX10_fillFrom_95 : decode cX10_fillFrom 95 = .ok (.iconst 0, 1) := by decide +kernel
theorem dX10_fillFrom_96 : decode cX10_fillFrom 96 = .ok (.ireturn, 1) := by decide +kernel
theorem dX10_fillFrom_97 : decode cX10_fillFrom 97 = .ok (.aload_n 0, 1) := by decide +kernel
theorem dX10_fillFrom_98 : decode cX10_fillFrom 98 = .ok (.iconst 1, 1) := by decide +kernel
theorem dX10_fillFrom_99 : decode cX10_fillFrom 99 = .ok (.putfield 30, 3) := by decide +kernel
theorem dX10_fillFrom_102 : decode cX10_fillFrom 102 = .ok (.aload_n 0, 1) := by decide +kernel
theorem dX10_fillFrom_103 : decode cX10_fillFrom 103 = .ok (.aload_n 0, 1) := by decide +kernel
theorem dX10_fillFrom_104 : decode cX10_fillFrom 104 = .ok (.getfield 33, 3) := by decide +kernel
theorem dX10_fillFrom_107 : decode cX10_fillFrom 107 = .ok (.aload_n 0, 1) := by decide +kernel
theorem dX10_fillFrom_108 : decode cX10_fillFrom 108 = .ok (.getfield 27, 3) := by decide +kernel
theorem dX10_fillFrom_111 : decode cX10_fillFrom 111 = .ok (.imul, 1) := by decide +kernel
theorem dX10_fillFrom_112 : decode cX10_fillFrom 112 = .ok (.bipush 10, 2) := by decide +kernel
theorem dX10_fillFrom_114 : decode cX10_fillFrom 114 = .ok (.idiv, 1) := by decide +kernel
theorem dX10_fillFrom_115 : decode cX10_fillFrom 115 = .ok (.putfield 36, 3) := by decide +kernel
theorem dX10_fillFrom_118 : decode cX10_fillFrom 118 = .ok (.aload_n 0, 1) := by decide +kernel
theorem dX10_fillFrom_119 : decode cX10_fillFrom 119 = .ok (.iconst 0, 1) := by decide +kernel
theorem dX10_fillFrom_120 : decode cX10_fillFrom 120 = .ok (.putfield 39, 3) := by decide +kernel
theorem dX10_fillFrom_123 : decode cX10_fillFrom 123 = .ok (.iconst 1, 1) := by decide +kernel
theorem dX10_fillFrom_124 : decode cX10_fillFrom 124 = .ok (.ireturn, 1) := by decide +kernel
theorem dX10_addCard_0 : decode cX10_addCard 0 = .ok (.aload_n 0, 1) := by decide +kernel
theorem dX10_addCard_1 : decode cX10_addCard 1 = .ok (.aload_n 1, 1) := by decide +kernel
theorem dX10_addCard_2 : decode cX10_addCard 2 = .ok (.getfield 11, 3) := by decide +kernel
theorem dX10_addCard_5 : decode cX10_addCard 5 = .ok (.putfield 11, 3) := by decide +kernel
theorem dX10_addCard_8 : decode cX10_addCard 8 = .ok (.aload_n 0, 1) := by decide +kernel
theorem dX10_addCard_9 : decode cX10_addCard 9 = .ok (.aload_n 1, 1) := by decide +kernel
theorem dX10_addCard_10 : decode cX10_addCard 10 = .ok (.getfield 17, 3) := by decide +kernel
theorem dX10_addCard_13 : decode cX10_addCard 13 = .ok (.putfield 17, 3) := by decide +kernel
theorem dX10_addCard_16 : decode cX10_addCard 16 = .ok (.aload_n 0, 1) := by decide +kernel
theorem dX10_addCard_17 : decode cX10_addCard 17 = .ok (.aload_n 1, 1) := by decide +kernel
theorem dX10_addCard_18 : decode cX10_addCard 18 = .ok (.getfield 20, 3) := by decide +kernel
theorem dX10_addCard_21 : decode cX10_addCard 21 = .ok (.putfield 20, 3) := by decide +kernel
theorem dX10_addCard_24 : decode cX10_addCard 24 = .ok (.aload_n 0, 1) := by decide +kernel
theorem dX10_addCard_25 : decode cX10_addCard 25 = .ok (.aload_n 1, 1) := by decide +kernel
theorem dX10_addCard_26 : decode cX10_addCard 26 = .ok (.getfield 27, 3) := by decide +kernel
theorem dX10_addCard_29 : decode cX10_addCard 29 = .ok (.putfield 27, 3) := by decide +kernel
theorem dX10_addCard_32 : decode cX10_addCard 32 = .ok (.aload_n 0, 1) := by decide +kernel
theorem dX10_addCard_33 : decode cX10_addCard 33 = .ok (.dup, 1) := by decide +kernel
theorem dX10_addCard_34 : decode cX10_addCard 34 = .ok (.getfield 30, 3) := by decide +kernel
theorem dX10_addCard_37 : decode cX10_addCard 37 = .ok (.aload_n 1, 1) := by decide +kernel
theorem dX10_addCard_38 : decode cX10_addCard 38 = .ok (.getfield 30, 3) := by decide +kernel
theorem dX10_addCard_41 : decode cX10_addCard 41 = .ok (.iadd, 1) := by decide +kernel
theorem dX10_addCard_42 : decode cX10_addCard 42 = .ok (.putfield 30, 3) := by decide +kernel
theorem dX10_addCard_45 : decode cX10_addCard 45 = .ok (.aload_n 0, 1) := by decide +kernel
theorem dX10_addCard_46 : decode cX10_addCard 46 = .ok (.dup, 1) := by decide +kernel
theorem dX10_addCard_47 : decode cX10_addCard 47 = .ok (.getfield 33, 3) := by decide +kernel
theorem dX10_addCard_50 : decode cX10_addCard 50 = .ok (.aload_n 1, 1) := by decide +kernel
theorem dX10_addCard_51 : decode cX10_addCard 51 = .ok (.getfield 33, 3) := by decide +kernel
theorem dX10_addCard_54 : decode cX10_addCard 54 = .ok (.iadd, 1) := by decide +kernel
theorem dX10_addCard_55 : decode cX10_addCard 55 = .ok (.putfield 33, 3) := by decide +kernel
theorem dX10_addCard_58 : decode cX10_addCard 58 = .ok (.aload_n 0, 1) := by decide +kernel
theorem dX10_addCard_59 : decode cX10_addCard 59 = .ok (.dup, 1) := by decide +kernel
theorem dX10_addCard_60 : decode cX10_addCard 60 = .ok (.getfield 36, 3) := by decide +kernel
theorem dX10_addCard_63 : decode cX10_addCard 63 = .ok (.aload_n 1, 1) := by decide +kernel
theorem dX10_addCard_64 : decode cX10_addCard 64 = .ok (.getfield 36, 3) := by decide +kernel
theorem dX10_addCard_67 : decode cX10_addCard 67 = .ok (.iadd, 1) := by decide +kernel
theorem dX10_addCard_68 : decode cX10_addCard 68 = .ok (.putfield 36, 3) := by decide +kernel
theorem dX10_addCard_71 : decode cX10_addCard 71 = .ok (.return_, 1) := by decide +kernel
theorem dX10_overtimeBeyond_0 : decode cX10_overtimeBeyond 0 = .ok (.aload_n 0, 1) := by decide +kernel
theorem dX10_overtimeBeyond_1 : decode cX10_overtimeBeyond 1 = .ok (.getfield 33, 3) := by decide +kernel
theorem dX10_overtimeBeyond_4 : decode cX10_overtimeBeyond 4 = .ok (.iload_n 1, 1) := by decide +kernel
theorem dX10_overtimeBeyond_5 : decode cX10_overtimeBeyond 5 = .ok (.if_icmp .gt 5, 3) := by decide +kernel
theorem dX10_overtimeBeyond_8 : decode cX10_overtimeBeyond 8 = .ok (.iconst 0, 1) := by decide +kernel
theorem dX10_overtimeBeyond_9 : decode cX10_overtimeBeyond 9 = .ok (.ireturn, 1) := by decide +kernel
theorem dX10_overtimeBeyond_10 : decode cX10_overtimeBeyond 10 = .ok (.aload_n 0, 1) := by decide +kernel
theorem dX10_overtimeBeyond_11 : decode cX10_overtimeBeyond 11 = .ok (.getfield 33, 3) := by decide +kernel
theorem dX10_overtimeBeyond_14 : decode cX10_overtimeBeyond 14 = .ok (.iload_n 1, 1) := by decide +kernel
theorem dX10_overtimeBeyond_15 : decode cX10_overtimeBeyond 15 = .ok (.isub, 1) := by decide +kernel
theorem dX10_overtimeBeyond_16 : decode cX10_overtimeBeyond 16 = .ok (.i2l, 1) := by decide +kernel
theorem dX10_overtimeBeyond_17 : decode cX10_overtimeBeyond 17 = .ok (.aload_n 0, 1) := by decide +kernel
theorem dX10_overtimeBeyond_18 : decode cX10_overtimeBeyond 18 = .ok (.getfield 27, 3) := by decide +kernel
theorem dX10_overtimeBeyond_21 : decode cX10_overtimeBeyond 21 = .ok (.i2l, 1) := by decide +kernel
theorem dX10_overtimeBeyond_22 : decode cX10_overtimeBeyond 22 = .ok (.lmul, 1) := by decide +kernel
theorem dX10_overtimeBeyond_23 : decode cX10_overtimeBeyond 23 = .ok (.ldc2_w 49, 3) := by decide +kernel
theorem dX10_overtimeBeyond_26 : decode cX10_overtimeBeyond 26 = .ok (.ldiv, 1) := by decide +kernel
theorem dX10_overtimeBeyond_27 : decode cX10_overtimeBeyond 27 = .ok (.l2i, 1) := by decide +kernel
theorem dX10_overtimeBeyond_28 : decode cX10_overtimeBeyond 28 = .ok (.ireturn, 1) := by decide +kernel
theorem dX10_addOvertime_0 : decode cX10_addOvertime 0 = .ok (.aload_n 0, 1) := by decide +kernel
theorem dX10_addOvertime_1 : decode cX10_addOvertime 1 = .ok (.dup, 1) := by decide +kernel
theorem dX10_addOvertime_2 : decode cX10_addOvertime 2 = .ok (.getfield 36, 3) := by decide +kernel
theorem dX10_addOvertime_5 : decode cX10_addOvertime 5 = .ok (.iload_n 1, 1) := by decide +kernel
theorem dX10_addOvertime_6 : decode cX10_addOvertime 6 = .ok (.iadd, 1) := by decide +kernel
theorem dX10_addOvertime_7 : decode cX10_addOvertime 7 = .ok (.putfield 36, 3) := by decide +kernel
theorem dX10_addOvertime_10 : decode cX10_addOvertime 10 = .ok (.aload_n 0, 1) := by decide +kernel
theorem dX10_addOvertime_11 : decode cX10_addOvertime 11 = .ok (.dup, 1) := by decide +kernel
theorem dX10_addOvertime_12 : decode cX10_addOvertime 12 = .ok (.getfield 39, 3) := by decide +kernel
theorem dX10_addOvertime_15 : decode cX10_addOvertime 15 = .ok (.iload_n 1, 1) := by decide +kernel
theorem dX10_addOvertime_16 : decode cX10_addOvertime 16 = .ok (.iadd, 1) := by decide +kernel
theorem dX10_addOvertime_17 : decode cX10_addOvertime 17 = .ok (.putfield 39, 3) := by decide +kernel
theorem dX10_addOvertime_20 : decode cX10_addOvertime 20 = .ok (.return_, 1) := by decide +kernel
theorem dX11_init_0 : decode cX11_init 0 = .ok (.aload_n 0, 1) := by decide +kernel
theorem dX11_init_1 : decode cX11_init 1 = .ok (.invokespecial 3, 3) := by decide +kernel
theorem dX11_init_4 : decode cX11_init 4 = .ok (.aload_n 0, 1) := by decide +kernel
theorem dX11_init_5 : decode cX11_init 5 = .ok (.new 9, 3) := by decide +kernel
theorem dX11_init_8 : decode cX11_init 8 = .ok (.dup, 1) := by decide +kernel
theorem dX11_init_9 : decode cX11_init 9 = .ok (.invokespecial 11, 3) := by decide +kernel
theorem dX11_init_12 : decode cX11_init 12 = .ok (.putfield 12, 3) := by decide +kernel
theorem dX11_init_15 : decode cX11_init 15 = .ok (.aload_n 0, 1) := by decide +kernel
theorem dX11_init_16 : decode cX11_init 16 = .ok (.new 16, 3) := by decide +kernel
theorem dX11_init_19 : decode cX11_init 19 = .ok (.dup, 1) := by decide +kernel
theorem dX11_init_20 : decode cX11_init 20 = .ok (.invokespecial 18, 3) := by decide +kernel
theorem dX11_init_23 : decode cX11_init 23 = .ok (.putfield 19, 3) := by decide +kernel
theorem dX11_init_26 : decode cX11_init 26 = .ok (.aload_n 0, 1) := by decide +kernel
theorem dX11_init_27 : decode cX11_init 27 = .ok (.iconst 2, 1) := by decide +kernel
theorem dX11_init_28 : decode cX11_init 28 = .ok (.anewarray 9, 3) := by decide +kernel
theorem dX11_init_31 : decode cX11_init 31 = .ok (.putfield 23, 3) := by decide +kernel
theorem dX11_init_34 : decode cX11_init 34 = .ok (.aload_n 0, 1) := by decide +kernel
theorem dX11_init_35 : decode cX11_init 35 = .ok (.new 27, 3) := by decide +kernel
theorem dX11_init_38 : decode cX11_init 38 = .ok (.dup, 1) := by decide +kernel
theorem dX11_init_39 : decode cX11_init 39 = .ok (.invokespecial 29, 3) := by decide +kernel
theorem dX11_init_42 : decode cX11_init 42 = .ok (.putfield 30, 3) := by decide +kernel
theorem dX11_init_45 : decode cX11_init 45 = .ok (.aload_n 0, 1) := by decide +kernel
theorem dX11_init_46 : decode cX11_init 46 = .ok (.new 34, 3) := by decide +kernel
theorem dX11_init_49 : decode cX11_init 49 = .ok (.dup, 1) := by decide +kernel
theorem dX11_init_50 : decode cX11_init 50 = .ok (.invokespecial 36, 3) := by decide +kernel
theorem dX11_init_53 : decode cX11_init 53 = .ok (.putfield 37, 3) := by decide +kernel
theorem dX11_init_56 : decode cX11_init 56 = .ok (.aload_n 0, 1) := by decide +kernel
theorem dX11_init_57 : decode cX11_init 57 = .ok (.new 41, 3) := by decide +kernel
theorem dX11_init_60 : decode cX11_init 60 = .ok (.dup, 1) := by decide +kernel
theorem dX11_init_61 : decode cX11_init 61 = .ok (.invokespecial 43, 3) := by decide +kernel
theorem dX11_init_64 : decode cX11_init 64 = .ok (.putfield 44, 3) := by decide +kernel
theorem dX11_init_67 : decode cX11_init 67 = .ok (.aload_n 0, 1) := by decide +kernel
theorem dX11_init_68 : decode cX11_init 68 = .ok (.new 48, 3) := by decide +kernel
theorem dX11_init_71 : decode cX11_init 71 = .ok (.dup, 1) := by decide +kernel
theorem dX11_init_72 : decode cX11_init 72 = .ok (.invokespecial 50, 3) := by decide +kernel
theorem dX11_init_75 : decode cX11_init 75 = .ok (.putfield 51, 3) := by decide +kernel
theorem dX11_init_78 : decode cX11_init 78 = .ok (.aload_n 0, 1) := by decide +kernel
theorem dX11_init_79 : decode cX11_init 79 = .ok (.new 55, 3) := by decide +kernel
theorem dX11_init_82 : decode cX11_init 82 = .ok (.dup, 1) := by decide +kernel
theorem dX11_init_83 : decode cX11_init 83 = .ok (.invokespecial 57, 3) := by decide +kernel
theorem dX11_init_86 : decode cX11_init 86 = .ok (.putfield 58, 3) := by decide +kernel
theorem dX11_init_89 : decode cX11_init 89 = .ok (.aload_n 0, 1) := by decide +kernel
theorem dX11_init_90 : decode cX11_init 90 = .ok (.new 62, 3) := by decide +kernel
theorem dX11_init_93 : decode cX11_init 93 = .ok (.dup, 1) := by decide +kernel
theorem dX11_init_94 : decode cX11_init 94 = .ok (.invokespecial 64, 3) := by decide +kernel
theorem dX11_init_97 : decode cX11_init 97 = .ok (.putfield 65, 3) := by decide +kernel
theorem dX11_init_100 : decode cX11_init 100 = .ok (.return_, 1) := by decide +kernel
theorem dX11_lay_0 : decode cX11_lay 0 = .ok (.iload_n 1, 1) := by decide +kernel
theorem dX11_lay_1 : decode cX11_lay 1 = .ok (.invokestatic 69, 3) := by decide +kernel
theorem dX11_lay_4 : decode cX11_lay 4 = .ok (.ifCond .eq 12, 3) := by decide +kernel
theorem dX11_lay_7 : decode cX11_lay 7 = .ok (.iload_n 1, 1) := by decide +kernel
theorem dX11_lay_8 : decode cX11_lay 8 = .ok (.iload_n 2, 1) := by decide +kernel
theorem dX11_lay_9 : decode cX11_lay 9 = .ok (.iload_n 3, 1) := by decide +kernel
theorem dX11_lay_10 : decode cX11_lay 10 = .ok (.invokestatic 73, 3) := by decide +kernel
theorem dX11_lay_13 : decode cX11_lay 13 = .ok (.ifCond .ne 6, 3) := by decide +kernel
theorem dX11_lay_16 : decode cX11_lay 16 = .ok (.ldc 77, 2) := by decide +kernel
theorem dX11_lay_18 : decode cX11_lay 18 = .ok (.ireturn, 1) := by decide +kernel
theorem dX11_lay_19 : decode cX11_lay 19 = .ok (.aload_n 0, 1) := by decide +kernel
theorem dX11_lay_20 : decode cX11_lay 20 = .ok (.getfield 19, 3) := by decide +kernel
theorem dX11_lay_23 : decode cX11_lay 23 = .ok (.aload_n 0, 1) := by decide +kernel
theorem dX11_lay_24 : decode cX11_lay 24 = .ok (.getfield 12, 3) := by decide +kernel
theorem dX11_lay_27 : decode cX11_lay 27 = .ok (.invokevirtual 78, 3) := by decide +kernel
theorem dX11_lay_30 : decode cX11_lay 30 = .ok (.aload_n 0, 1) := by decide +kernel
theorem dX11_lay_31 : decode cX11_lay 31 = .ok (.getfield 12, 3) := by decide +kernel
theorem dX11_lay_34 : decode cX11_lay 34 = .ok (.getfield 82, 3) := by decide +kernel
theorem dX11_lay_37 : decode cX11_lay 37 = .ok (.iload_n 1, 1) := by decide +kernel
theorem dX11_lay_38 : decode cX11_lay 38 = .ok (.invokevirtual 86, 3) := by decide +kernel
end
section
theorem dX11_lay_41 : decode cX11_lay 41 = .ok (.istore 4, 2) := by decide +kernel
theorem dX11_lay_43 : decode cX11_lay 43 = .ok (.aload_n 0, 1) := by decide +kernel
theorem dX11_lay_44 : decode cX11_lay 44 = .ok (.getfield 12, 3) := by decide +kernel
theorem dX11_lay_47 : decode cX11_lay 47 = .ok (.getfield 82, 3) := by decide +kernel
theorem dX11_lay_50 : decode cX11_lay 50 = .ok (.iload_n 1, 1) := by decide +kernel
theorem dX11_lay_51 : decode cX11_lay 51 = .ok (.iload_n 2, 1) := by decide +kernel
theorem dX11_lay_52 : decode cX11_lay 52 = .ok (.iload_n 3, 1) := by decide +kernel
theorem dX11_lay_53 : decode cX11_lay 53 = .ok (.invokevirtual 92, 3) := by decide +kernel
theorem dX11_lay_56 : decode cX11_lay 56 = .ok (.iload 4, 2) := by decide +kernel
theorem dX11_lay_58 : decode cX11_lay 58 = .ok (.ireturn, 1) := by decide +kernel
theorem dX11_set_0 : decode cX11_set 0 = .ok (.iload_n 1, 1) := by decide +kernel
theorem dX11_set_1 : decode cX11_set 1 = .ok (.invokestatic 96, 3) := by decide +kernel
theorem dX11_set_4 : decode cX11_set 4 = .ok (.ifCond .eq 16, 3) := by decide +kernel
theorem dX11_set_7 : decode cX11_set 7 = .ok (.iload_n 2, 1) := by decide +kernel
theorem dX11_set_8 : decode cX11_set 8 = .ok (.iconst 0, 1) := by decide +kernel
theorem dX11_set_9 : decode cX11_set 9 = .ok (.getstatic 99, 3) := by decide +kernel
theorem dX11_set_12 : decode cX11_set 12 = .ok (.iload_n 1, 1) := by decide +kernel
theorem dX11_set_13 : decode cX11_set 13 = .ok (.iaload, 1) := by decide +kernel
theorem dX11_set_14 : decode cX11_set 14 = .ok (.invokestatic 103, 3) := by decide +kernel
theorem dX11_set_17 : decode cX11_set 17 = .ok (.ifCond .ne 6, 3) := by decide +kernel
theorem dX11_set_20 : decode cX11_set 20 = .ok (.ldc 77, 2) := by decide +kernel
theorem dX11_set_22 : decode cX11_set 22 = .ok (.ireturn, 1) := by decide +kernel
theorem dX11_set_23 : decode cX11_set 23 = .ok (.aload_n 0, 1) := by decide +kernel
theorem dX11_set_24 : decode cX11_set 24 = .ok (.getfield 19, 3) := by decide +kernel
theorem dX11_set_27 : decode cX11_set 27 = .ok (.aload_n 0, 1) := by decide +kernel
theorem dX11_set_28 : decode cX11_set 28 = .ok (.getfield 12, 3) := by decide +kernel
theorem dX11_set_31 : decode cX11_set 31 = .ok (.invokevirtual 78, 3) := by decide +kernel
theorem dX11_set_34 : decode cX11_set 34 = .ok (.aload_n 0, 1) := by decide +kernel
theorem dX11_set_35 : decode cX11_set 35 = .ok (.getfield 12, 3) := by decide +kernel
theorem dX11_set_38 : decode cX11_set 38 = .ok (.iload_n 1, 1) := by decide +kernel
theorem dX11_set_39 : decode cX11_set 39 = .ok (.invokevirtual 106, 3) := by decide +kernel
theorem dX11_set_42 : decode cX11_set 42 = .ok (.istore_n 3, 1) := by decide +kernel
theorem dX11_set_43 : decode cX11_set 43 = .ok (.aload_n 0, 1) := by decide +kernel
theorem dX11_set_44 : decode cX11_set 44 = .ok (.getfield 12, 3) := by decide +kernel
theorem dX11_set_47 : decode cX11_set 47 = .ok (.getfield 109, 3) := by decide +kernel
theorem dX11_set_50 : decode cX11_set 50 = .ok (.iload_n 1, 1) := by decide +kernel
theorem dX11_set_51 : decode cX11_set 51 = .ok (.iload_n 2, 1) := by decide +kernel
theorem dX11_set_52 : decode cX11_set 52 = .ok (.iastore, 1) := by decide +kernel
theorem dX11_set_53 : decode cX11_set 53 = .ok (.iload_n 3, 1) := by decide +kernel
theorem dX11_set_54 : decode cX11_set 54 = .ok (.ireturn, 1) := by decide +kernel
theorem dX11_control_0 : decode cX11_control 0 = .ok (.iload_n 1, 1) := by decide +kernel
theorem dX11_control_1 : decode cX11_control 1 = .ok (.invokestatic 112, 3) := by decide +kernel
theorem dX11_control_4 : decode cX11_control 4 = .ok (.ifCond .eq 19, 3) := by decide +kernel
theorem dX11_control_7 : decode cX11_control 7 = .ok (.iload_n 2, 1) := by decide +kernel
theorem dX11_control_8 : decode cX11_control 8 = .ok (.ldc 115, 2) := by decide +kernel
theorem dX11_control_10 : decode cX11_control 10 = .ok (.if_icmp .eq 16, 3) := by decide +kernel
theorem dX11_control_13 : decode cX11_control 13 = .ok (.iload_n 2, 1) := by decide +kernel
theorem dX11_control_14 : decode cX11_control 14 = .ok (.iconst 0, 1) := by decide +kernel
theorem dX11_control_15 : decode cX11_control 15 = .ok (.ldc 116, 2) := by decide +kernel
theorem dX11_control_17 : decode cX11_control 17 = .ok (.invokestatic 103, 3) := by decide +kernel
theorem dX11_control_20 : decode cX11_control 20 = .ok (.ifCond .ne 6, 3) := by decide +kernel
theorem dX11_control_23 : decode cX11_control 23 = .ok (.ldc 77, 2) := by decide +kernel
theorem dX11_control_25 : decode cX11_control 25 = .ok (.ireturn, 1) := by decide +kernel
theorem dX11_control_26 : decode cX11_control 26 = .ok (.aload_n 0, 1) := by decide +kernel
theorem dX11_control_27 : decode cX11_control 27 = .ok (.getfield 19, 3) := by decide +kernel
theorem dX11_control_30 : decode cX11_control 30 = .ok (.aload_n 0, 1) := by decide +kernel
theorem dX11_control_31 : decode cX11_control 31 = .ok (.getfield 12, 3) := by decide +kernel
theorem dX11_control_34 : decode cX11_control 34 = .ok (.invokevirtual 78, 3) := by decide +kernel
theorem dX11_control_37 : decode cX11_control 37 = .ok (.aload_n 0, 1) := by decide +kernel
theorem dX11_control_38 : decode cX11_control 38 = .ok (.getfield 12, 3) := by decide +kernel
theorem dX11_control_41 : decode cX11_control 41 = .ok (.getfield 117, 3) := by decide +kernel
theorem dX11_control_44 : decode cX11_control 44 = .ok (.iload_n 1, 1) := by decide +kernel
theorem dX11_control_45 : decode cX11_control 45 = .ok (.iaload, 1) := by decide +kernel
theorem dX11_control_46 : decode cX11_control 46 = .ok (.istore_n 3, 1) := by decide +kernel
theorem dX11_control_47 : decode cX11_control 47 = .ok (.aload_n 0, 1) := by decide +kernel
theorem dX11_control_48 : decode cX11_control 48 = .ok (.getfield 12, 3) := by decide +kernel
theorem dX11_control_51 : decode cX11_control 51 = .ok (.getfield 117, 3) := by decide +kernel
theorem dX11_control_54 : decode cX11_control 54 = .ok (.iload_n 1, 1) := by decide +kernel
theorem dX11_control_55 : decode cX11_control 55 = .ok (.iload_n 2, 1) := by decide +kernel
theorem dX11_control_56 : decode cX11_control 56 = .ok (.iastore, 1) := by decide +kernel
theorem dX11_control_57 : decode cX11_control 57 = .ok (.iload_n 3, 1) := by decide +kernel
theorem dX11_control_58 : decode cX11_control 58 = .ok (.ireturn, 1) := by decide +kernel
theorem dX11_punch_0 : decode cX11_punch 0 = .ok (.iload_n 1, 1) := by decide +kernel
theorem dX11_punch_1 : decode cX11_punch 1 = .ok (.iconst 0, 1) := by decide +kernel
theorem dX11_punch_2 : decode cX11_punch 2 = .ok (.aload_n 0, 1) := by decide +kernel
theorem dX11_punch_3 : decode cX11_punch 3 = .ok (.getfield 12, 3) := by decide +kernel
theorem dX11_punch_6 : decode cX11_punch 6 = .ok (.getfield 120, 3) := by decide +kernel
theorem dX11_punch_9 : decode cX11_punch 9 = .ok (.invokevirtual 124, 3) := by decide +kernel
theorem dX11_punch_12 : decode cX11_punch 12 = .ok (.invokestatic 103, 3) := by decide +kernel
theorem dX11_punch_15 : decode cX11_punch 15 = .ok (.ifCond .ne 6, 3) := by decide +kernel
theorem dX11_punch_18 : decode cX11_punch 18 = .ok (.ldc 77, 2) := by decide +kernel
theorem dX11_punch_20 : decode cX11_punch 20 = .ok (.ireturn, 1) := by decide +kernel
theorem dX11_punch_21 : decode cX11_punch 21 = .ok (.aload_n 0, 1) := by decide +kernel
theorem dX11_punch_22 : decode cX11_punch 22 = .ok (.getfield 30, 3) := by decide +kernel
theorem dX11_punch_25 : decode cX11_punch 25 = .ok (.aload_n 0, 1) := by decide +kernel
theorem dX11_punch_26 : decode cX11_punch 26 = .ok (.getfield 12, 3) := by decide +kernel
theorem dX11_punch_29 : decode cX11_punch 29 = .ok (.getfield 82, 3) := by decide +kernel
theorem dX11_punch_32 : decode cX11_punch 32 = .ok (.invokevirtual 130, 3) := by decide +kernel
theorem dX11_punch_35 : decode cX11_punch 35 = .ok (.ifCond .ne 6, 3) := by decide +kernel
theorem dX11_punch_38 : decode cX11_punch 38 = .ok (.ldc 134, 2) := by decide +kernel
theorem dX11_punch_40 : decode cX11_punch 40 = .ok (.ireturn, 1) := by decide +kernel
theorem dX11_punch_41 : decode cX11_punch 41 = .ok (.aload_n 0, 1) := by decide +kernel
theorem dX11_punch_42 : decode cX11_punch 42 = .ok (.getfield 12, 3) := by decide +kernel
theorem dX11_punch_45 : decode cX11_punch 45 = .ok (.getfield 120, 3) := by decide +kernel
theorem dX11_punch_48 : decode cX11_punch 48 = .ok (.invokevirtual 124, 3) := by decide +kernel
theorem dX11_punch_51 : decode cX11_punch 51 = .ok (.bipush 40, 2) := by decide +kernel
theorem dX11_punch_53 : decode cX11_punch 53 = .ok (.if_icmp .lt 6, 3) := by decide +kernel
theorem dX11_punch_56 : decode cX11_punch 56 = .ok (.ldc 135, 2) := by decide +kernel
theorem dX11_punch_58 : decode cX11_punch 58 = .ok (.ireturn, 1) := by decide +kernel
theorem dX11_punch_59 : decode cX11_punch 59 = .ok (.aload_n 0, 1) := by decide +kernel
theorem dX11_punch_60 : decode cX11_punch 60 = .ok (.getfield 19, 3) := by decide +kernel
theorem dX11_punch_63 : decode cX11_punch 63 = .ok (.aload_n 0, 1) := by decide +kernel
theorem dX11_punch_64 : decode cX11_punch 64 = .ok (.getfield 12, 3) := by decide +kernel
theorem dX11_punch_67 : decode cX11_punch 67 = .ok (.invokevirtual 78, 3) := by decide +kernel
theorem dX11_punch_70 : decode cX11_punch 70 = .ok (.aload_n 0, 1) := by decide +kernel
theorem dX11_punch_71 : decode cX11_punch 71 = .ok (.getfield 12, 3) := by decide +kernel
theorem dX11_punch_74 : decode cX11_punch 74 = .ok (.getfield 120, 3) := by decide +kernel
theorem dX11_punch_77 : decode cX11_punch 77 = .ok (.iload_n 1, 1) := by decide +kernel
theorem dX11_punch_78 : decode cX11_punch 78 = .ok (.invokevirtual 136, 3) := by decide +kernel
theorem dX11_punch_81 : decode cX11_punch 81 = .ok (.astore_n 2, 1) := by decide +kernel
theorem dX11_punch_82 : decode cX11_punch 82 = .ok (.aload_n 0, 1) := by decide +kernel
theorem dX11_punch_83 : decode cX11_punch 83 = .ok (.getfield 30, 3) := by decide +kernel
theorem dX11_punch_86 : decode cX11_punch 86 = .ok (.aload_n 2, 1) := by decide +kernel
theorem dX11_punch_87 : decode cX11_punch 87 = .ok (.aload_n 0, 1) := by decide +kernel
theorem dX11_punch_88 : decode cX11_punch 88 = .ok (.getfield 12, 3) := by decide +kernel
theorem dX11_punch_91 : decode cX11_punch 91 = .ok (.getfield 82, 3) := by decide +kernel
theorem dX11_punch_94 : decode cX11_punch 94 = .ok (.invokevirtual 140, 3) := by decide +kernel
theorem dX11_punch_97 : decode cX11_punch 97 = .ok (.aload_n 2, 1) := by decide +kernel
theorem dX11_punch_98 : decode cX11_punch 98 = .ok (.aload_n 0, 1) := by decide +kernel
theorem dX11_punch_99 : decode cX11_punch 99 = .ok (.getfield 12, 3) := by decide +kernel
theorem dX11_punch_102 : decode cX11_punch 102 = .ok (.getfield 82, 3) := by decide +kernel
theorem dX11_punch_105 : decode cX11_punch 105 = .ok (.iconst 5, 1) := by decide +kernel
theorem dX11_punch_106 : decode cX11_punch 106 = .ok (.invokevirtual 86, 3) := by decide +kernel
theorem dX11_punch_109 : decode cX11_punch 109 = .ok (.aload_n 0, 1) := by decide +kernel
theorem dX11_punch_110 : decode cX11_punch 110 = .ok (.getfield 12, 3) := by decide +kernel
theorem dX11_punch_113 : decode cX11_punch 113 = .ok (.getfield 82, 3) := by decide +kernel
theorem dX11_punch_116 : decode cX11_punch 116 = .ok (.aload_n 2, 1) := by decide +kernel
theorem dX11_punch_117 : decode cX11_punch 117 = .ok (.invokevirtual 144, 3) := by decide +kernel
theorem dX11_punch_120 : decode cX11_punch 120 = .ok (.invokevirtual 148, 3) := by decide +kernel
theorem dX11_punch_123 : decode cX11_punch 123 = .ok (.aload_n 0, 1) := by decide +kernel
theorem dX11_punch_124 : decode cX11_punch 124 = .ok (.getfield 12, 3) := by decide +kernel
theorem dX11_punch_127 : decode cX11_punch 127 = .ok (.getfield 120, 3) := by decide +kernel
theorem dX11_punch_130 : decode cX11_punch 130 = .ok (.invokevirtual 124, 3) := by decide +kernel
theorem dX11_punch_133 : decode cX11_punch 133 = .ok (.ireturn, 1) := by decide +kernel
theorem dX11_take_0 : decode cX11_take 0 = .ok (.aload_n 0, 1) := by decide +kernel
theorem dX11_take_1 : decode cX11_take 1 = .ok (.getfield 12, 3) := by decide +kernel
theorem dX11_take_4 : decode cX11_take 4 = .ok (.getfield 120, 3) := by decide +kernel
theorem dX11_take_7 : decode cX11_take 7 = .ok (.iload_n 1, 1) := by decide +kernel
theorem dX11_take_8 : decode cX11_take 8 = .ok (.invokevirtual 152, 3) := by decide +kernel
theorem dX11_take_11 : decode cX11_take 11 = .ok (.ifCond .ne 6, 3) := by decide +kernel
theorem dX11_take_14 : decode cX11_take 14 = .ok (.ldc 77, 2) := by decide +kernel
theorem dX11_take_16 : decode cX11_take 16 = .ok (.ireturn, 1) := by decide +kernel
theorem dX11_take_17 : decode cX11_take 17 = .ok (.aload_n 0, 1) := by decide +kernel
theorem dX11_take_18 : decode cX11_take 18 = .ok (.getfield 19, 3) := by decide +kernel
theorem dX11_take_21 : decode cX11_take 21 = .ok (.aload_n 0, 1) := by decide +kernel
theorem dX11_take_22 : decode cX11_take 22 = .ok (.getfield 12, 3) := by decide +kernel
theorem dX11_take_25 : decode cX11_take 25 = .ok (.invokevirtual 78, 3) := by decide +kernel
theorem dX11_take_28 : decode cX11_take 28 = .ok (.aload_n 0, 1) := by decide +kernel
theorem dX11_take_29 : decode cX11_take 29 = .ok (.getfield 12, 3) := by decide +kernel
theorem dX11_take_32 : decode cX11_take 32 = .ok (.getfield 120, 3) := by decide +kernel
theorem dX11_take_35 : decode cX11_take 35 = .ok (.iload_n 1, 1) := by decide +kernel
theorem dX11_take_36 : decode cX11_take 36 = .ok (.invokevirtual 155, 3) := by decide +kernel
theorem dX11_take_39 : decode cX11_take 39 = .ok (.aload_n 0, 1) := by decide +kernel
theorem dX11_take_40 : decode cX11_take 40 = .ok (.getfield 12, 3) := by decide +kernel
theorem dX11_take_43 : decode cX11_take 43 = .ok (.getfield 120, 3) := by decide +kernel
theorem dX11_take_46 : decode cX11_take 46 = .ok (.invokevirtual 124, 3) := by decide +kernel
theorem dX11_take_49 : decode cX11_take 49 = .ok (.ireturn, 1) := by decide +kernel
theorem dX11_move_0 : decode cX11_move 0 = .ok (.aload_n 0, 1) := by decide +kernel
theorem dX11_move_1 : decode cX11_move 1 = .ok (.getfield 12, 3) := by decide +kernel
theorem dX11_move_4 : decode cX11_move 4 = .ok (.getfield 120, 3) := by decide +kernel
theorem dX11_move_7 : decode cX11_move 7 = .ok (.iload_n 1, 1) := by decide +kernel
theorem dX11_move_8 : decode cX11_move 8 = .ok (.invokevirtual 152, 3) := by decide +kernel
theorem dX11_move_11 : decode cX11_move 11 = .ok (.ifCond .eq 17, 3) := by decide +kernel
theorem dX11_move_14 : decode cX11_move 14 = .ok (.aload_n 0, 1) := by decide +kernel
theorem dX11_move_15 : decode cX11_move 15 = .ok (.getfield 12, 3) := by decide +kernel
theorem dX11_move_18 : decode cX11_move 18 = .ok (.getfield 120, 3) := by decide +kernel
theorem dX11_move_21 : decode cX11_move 21 = .ok (.iload_n 2, 1) := by decide +kernel
theorem dX11_move_22 : decode cX11_move 22 = .ok (.invokevirtual 152, 3) := by decide +kernel
theorem dX11_move_25 : decode cX11_move 25 = .ok (.ifCond .ne 6, 3) := by decide +kernel
theorem dX11_move_28 : decode cX11_move 28 = .ok (.ldc 77, 2) := by decide +kernel
theorem dX11_move_30 : decode cX11_move 30 = .ok (.ireturn, 1) := by decide +kernel
theorem dX11_move_31 : decode cX11_move 31 = .ok (.aload_n 0, 1) := by decide +kernel
theorem dX11_move_32 : decode cX11_move 32 = .ok (.getfield 19, 3) := by decide +kernel
theorem dX11_move_35 : decode cX11_move 35 = .ok (.aload_n 0, 1) := by decide +kernel
theorem dX11_move_36 : decode cX11_move 36 = .ok (.getfield 12, 3) := by decide +kernel
theorem dX11_move_39 : decode cX11_move 39 = .ok (.invokevirtual 78, 3) := by decide +kernel
theorem dX11_move_42 : decode cX11_move 42 = .ok (.aload_n 0, 1) := by decide +kernel
theorem dX11_move_43 : decode cX11_move 43 = .ok (.getfield 12, 3) := by decide +kernel
theorem dX11_move_46 : decode cX11_move 46 = .ok (.getfield 120, 3) := by decide +kernel
theorem dX11_move_49 : decode cX11_move 49 = .ok (.iload_n 1, 1) := by decide +kernel
theorem dX11_move_50 : decode cX11_move 50 = .ok (.iload_n 2, 1) := by decide +kernel
theorem dX11_move_51 : decode cX11_move 51 = .ok (.invokevirtual 159, 3) := by decide +kernel
theorem dX11_move_54 : decode cX11_move 54 = .ok (.iload_n 1, 1) := by decide +kernel
theorem dX11_move_55 : decode cX11_move 55 = .ok (.iload_n 2, 1) := by decide +kernel
theorem dX11_move_56 : decode cX11_move 56 = .ok (.if_icmp .ne 7, 3) := by decide +kernel
theorem dX11_move_59 : decode cX11_move 59 = .ok (.iconst 0, 1) := by decide +kernel
theorem dX11_move_60 : decode cX11_move 60 = .ok (.goto 11, 3) := by decide +kernel
theorem dX11_move_63 : decode cX11_move 63 = .ok (.iload_n 1, 1) := by decide +kernel
theorem dX11_move_64 : decode cX11_move 64 = .ok (.iload_n 2, 1) := by decide +kernel
theorem dX11_move_65 : decode cX11_move 65 = .ok (.isub, 1) := by decide +kernel
theorem dX11_move_66 : decode cX11_move 66 = .ok (.invokestatic 162, 3) := by decide +kernel
theorem dX11_move_69 : decode cX11_move 69 = .ok (.iconst 1, 1) := by decide +kernel
theorem dX11_move_70 : decode cX11_move 70 = .ok (.iadd, 1) := by decide +kernel
theorem dX11_move_71 : decode cX11_move 71 = .ok (.ireturn, 1) := by decide +kernel
theorem dX11_repunch_0 : decode cX11_repunch 0 = .ok (.aload_n 0, 1) := by decide +kernel
theorem dX11_repunch_1 : decode cX11_repunch 1 = .ok (.getfield 12, 3) := by decide +kernel
theorem dX11_repunch_4 : decode cX11_repunch 4 = .ok (.getfield 120, 3) := by decide +kernel
theorem dX11_repunch_7 : decode cX11_repunch 7 = .ok (.iload_n 1, 1) := by decide +kernel
theorem dX11_repunch_8 : decode cX11_repunch 8 = .ok (.invokevirtual 152, 3) := by decide +kernel
theorem dX11_repunch_11 : decode cX11_repunch 11 = .ok (.ifCond .eq 26, 3) := by decide +kernel
theorem dX11_repunch_14 : decode cX11_repunch 14 = .ok (.iload_n 2, 1) := by decide +kernel
theorem dX11_repunch_15 : decode cX11_repunch 15 = .ok (.invokestatic 167, 3) := by decide +kernel
theorem dX11_repunch_18 : decode cX11_repunch 18 = .ok (.ifCond .eq 19, 3) := by decide +kernel
theorem dX11_repunch_21 : decode cX11_repunch 21 = .ok (.iload_n 3, 1) := by decide +kernel
theorem dX11_repunch_22 : decode cX11_repunch 22 = .ok (.ldc 115, 2) := by decide +kernel
theorem dX11_repunch_24 : decode cX11_repunch 24 = .ok (.if_icmp .eq 16, 3) := by decide +kernel
theorem dX11_repunch_27 : decode cX11_repunch 27 = .ok (.iload_n 3, 1) := by decide +kernel
theorem dX11_repunch_28 : decode cX11_repunch 28 = .ok (.iconst 0, 1) := by decide +kernel
theorem dX11_repunch_29 : decode cX11_repunch 29 = .ok (.bipush 9, 2) := by decide +kernel
theorem dX11_repunch_31 : decode cX11_repunch 31 = .ok (.invokestatic 103, 3) := by decide +kernel
theorem dX11_repunch_34 : decode cX11_repunch 34 = .ok (.ifCond .ne 6, 3) := by decide +kernel
theorem dX11_repunch_37 : decode cX11_repunch 37 = .ok (.ldc 77, 2) := by decide +kernel
theorem dX11_repunch_39 : decode cX11_repunch 39 = .ok (.ireturn, 1) := by decide +kernel
theorem dX11_repunch_40 : decode cX11_repunch 40 = .ok (.aload_n 0, 1) := by decide +kernel
theorem dX11_repunch_41 : decode cX11_repunch 41 = .ok (.getfield 19, 3) := by decide +kernel
theorem dX11_repunch_44 : decode cX11_repunch 44 = .ok (.aload_n 0, 1) := by decide +kernel
theorem dX11_repunch_45 : decode cX11_repunch 45 = .ok (.getfield 12, 3) := by decide +kernel
theorem dX11_repunch_48 : decode cX11_repunch 48 = .ok (.invokevirtual 78, 3) := by decide +kernel
theorem dX11_repunch_51 : decode cX11_repunch 51 = .ok (.aload_n 0, 1) := by decide +kernel
theorem dX11_repunch_52 : decode cX11_repunch 52 = .ok (.getfield 12, 3) := by decide +kernel
theorem dX11_repunch_55 : decode cX11_repunch 55 = .ok (.getfield 120, 3) := by decide +kernel
theorem dX11_repunch_58 : decode cX11_repunch 58 = .ok (.iload_n 1, 1) := by decide +kernel
theorem dX11_repunch_59 : decode cX11_repunch 59 = .ok (.invokevirtual 170, 3) := by decide +kernel
theorem dX11_repunch_62 : decode cX11_repunch 62 = .ok (.astore 4, 2) := by decide +kernel
theorem dX11_repunch_64 : decode cX11_repunch 64 = .ok (.aload 4, 2) := by decide +kernel
theorem dX11_repunch_66 : decode cX11_repunch 66 = .ok (.iload_n 2, 1) := by decide +kernel
theorem dX11_repunch_67 : decode cX11_repunch 67 = .ok (.invokevirtual 173, 3) := by decide +kernel
theorem dX11_repunch_70 : decode cX11_repunch 70 = .ok (.istore 5, 2) := by decide +kernel
theorem dX11_repunch_72 : decode cX11_repunch 72 = .ok (.aload 4, 2) := by decide +kernel
theorem dX11_repunch_74 : decode cX11_repunch 74 = .ok (.iload_n 2, 1) := by decide +kernel
theorem dX11_repunch_75 : decode cX11_repunch 75 = .ok (.iload_n 3, 1) := by decide +kernel
theorem dX11_repunch_76 : decode cX11_repunch 76 = .ok (.invokevirtual 148, 3) := by decide +kernel
theorem dX11_repunch_79 : decode cX11_repunch 79 = .ok (.iload 5, 2) := by decide +kernel
theorem dX11_repunch_81 : decode cX11_repunch 81 = .ok (.ireturn, 1) := by decide +kernel
theorem dX11_mark_0 : decode cX11_mark 0 = .ok (.aload_n 0, 1) := by decide +kernel
theorem dX11_mark_1 : decode cX11_mark 1 = .ok (.getfield 12, 3) := by decide +kernel
theorem dX11_mark_4 : decode cX11_mark 4 = .ok (.getfield 120, 3) := by decide +kernel
theorem dX11_mark_7 : decode cX11_mark 7 = .ok (.iload_n 1, 1) := by decide +kernel
theorem dX11_mark_8 : decode cX11_mark 8 = .ok (.invokevirtual 152, 3) := by decide +kernel
theorem dX11_mark_11 : decode cX11_mark 11 = .ok (.ifCond .eq 19, 3) := by decide +kernel
theorem dX11_mark_14 : decode cX11_mark 14 = .ok (.iload_n 2, 1) := by decide +kernel
theorem dX11_mark_15 : decode cX11_mark 15 = .ok (.iconst 0, 1) := by decide +kernel
theorem dX11_mark_16 : decode cX11_mark 16 = .ok (.iconst 3, 1) := by decide +kernel
theorem dX11_mark_17 : decode cX11_mark 17 = .ok (.invokestatic 103, 3) := by decide +kernel
theorem dX11_mark_20 : decode cX11_mark 20 = .ok (.ifCond .eq 10, 3) := by decide +kernel
theorem dX11_mark_23 : decode cX11_mark 23 = .ok (.iload_n 3, 1) := by decide +kernel
theorem dX11_mark_24 : decode cX11_mark 24 = .ok (.invokestatic 167, 3) := by decide +kernel
theorem dX11_mark_27 : decode cX11_mark 27 = .ok (.ifCond .ne 6, 3) := by decide +kernel
theorem dX11_mark_30 : decode cX11_mark 30 = .ok (.ldc 77, 2) := by decide +kernel
theorem dX11_mark_32 : decode cX11_mark 32 = .ok (.ireturn, 1) := by decide +kernel
theorem dX11_mark_33 : decode cX11_mark 33 = .ok (.aload_n 0, 1) := by decide +kernel
theorem dX11_mark_34 : decode cX11_mark 34 = .ok (.getfield 19, 3) := by decide +kernel
theorem dX11_mark_37 : decode cX11_mark 37 = .ok (.aload_n 0, 1) := by decide +kernel
theorem dX11_mark_38 : decode cX11_mark 38 = .ok (.getfield 12, 3) := by decide +kernel
theorem dX11_mark_41 : decode cX11_mark 41 = .ok (.invokevirtual 78, 3) := by decide +kernel
theorem dX11_mark_44 : decode cX11_mark 44 = .ok (.aload_n 0, 1) := by decide +kernel
theorem dX11_mark_45 : decode cX11_mark 45 = .ok (.getfield 12, 3) := by decide +kernel
theorem dX11_mark_48 : decode cX11_mark 48 = .ok (.getfield 120, 3) := by decide +kernel
theorem dX11_mark_51 : decode cX11_mark 51 = .ok (.iload_n 1, 1) := by decide +kernel
theorem dX11_mark_52 : decode cX11_mark 52 = .ok (.invokevirtual 170, 3) := by decide +kernel
theorem dX11_mark_55 : decode cX11_mark 55 = .ok (.astore 4, 2) := by decide +kernel
theorem dX11_mark_57 : decode cX11_mark 57 = .ok (.aload 4, 2) := by decide +kernel
theorem dX11_mark_59 : decode cX11_mark 59 = .ok (.getfield 176, 3) := by decide +kernel
theorem dX11_mark_62 : decode cX11_mark 62 = .ok (.istore 5, 2) := by decide +kernel
theorem dX11_mark_64 : decode cX11_mark 64 = .ok (.aload 4, 2) := by decide +kernel
theorem dX11_mark_66 : decode cX11_mark 66 = .ok (.iload_n 2, 1) := by decide +kernel
theorem dX11_mark_67 : decode cX11_mark 67 = .ok (.putfield 176, 3) := by decide +kernel
theorem dX11_mark_70 : decode cX11_mark 70 = .ok (.aload 4, 2) := by decide +kernel
theorem dX11_mark_72 : decode cX11_mark 72 = .ok (.iload_n 3, 1) := by decide +kernel
theorem dX11_mark_73 : decode cX11_mark 73 = .ok (.putfield 180, 3) := by decide +kernel
theorem dX11_mark_76 : decode cX11_mark 76 = .ok (.iload 5, 2) := by decide +kernel
theorem dX11_mark_78 : decode cX11_mark 78 = .ok (.ireturn, 1) := by decide +kernel
theorem dX11_pass_0 : decode cX11_pass 0 = .ok (.iload_n 1, 1) := by decide +kernel
theorem dX11_pass_1 : decode cX11_pass 1 = .ok (.invokestatic 167, 3) := by decide +kernel
theorem dX11_pass_4 : decode cX11_pass 4 = .ok (.ifCond .ne 6, 3) := by decide +kernel
theorem dX11_pass_7 : decode cX11_pass 7 = .ok (.ldc 77, 2) := by decide +kernel
theorem dX11_pass_9 : decode cX11_pass 9 = .ok (.ireturn, 1) := by decide +kernel
theorem dX11_pass_10 : decode cX11_pass 10 = .ok (.aload_n 0, 1) := by decide +kernel
theorem dX11_pass_11 : decode cX11_pass 11 = .ok (.getfield 19, 3) := by decide +kernel
theorem dX11_pass_14 : decode cX11_pass 14 = .ok (.aload_n 0, 1) := by decide +kernel
theorem dX11_pass_15 : decode cX11_pass 15 = .ok (.getfield 12, 3) := by decide +kernel
theorem dX11_pass_18 : decode cX11_pass 18 = .ok (.invokevirtual 78, 3) := by decide +kernel
theorem dX11_pass_21 : decode cX11_pass 21 = .ok (.aload_n 0, 1) := by decide +kernel
theorem dX11_pass_22 : decode cX11_pass 22 = .ok (.getfield 37, 3) := by decide +kernel
theorem dX11_pass_25 : decode cX11_pass 25 = .ok (.aload_n 0, 1) := by decide +kernel
theorem dX11_pass_26 : decode cX11_pass 26 = .ok (.getfield 12, 3) := by decide +kernel
theorem dX11_pass_29 : decode cX11_pass 29 = .ok (.getfield 120, 3) := by decide +kernel
theorem dX11_pass_32 : decode cX11_pass 32 = .ok (.invokevirtual 183, 3) := by decide +kernel
theorem dX11_pass_35 : decode cX11_pass 35 = .ok (.aload_n 0, 1) := by decide +kernel
theorem dX11_pass_36 : decode cX11_pass 36 = .ok (.getfield 37, 3) := by decide +kernel
theorem dX11_pass_39 : decode cX11_pass 39 = .ok (.aload_n 0, 1) := by decide +kernel
theorem dX11_pass_40 : decode cX11_pass 40 = .ok (.getfield 12, 3) := by decide +kernel
theorem dX11_pass_43 : decode cX11_pass 43 = .ok (.getfield 120, 3) := by decide +kernel
theorem dX11_pass_46 : decode cX11_pass 46 = .ok (.iload_n 1, 1) := by decide +kernel
theorem dX11_pass_47 : decode cX11_pass 47 = .ok (.invokevirtual 187, 3) := by decide +kernel
theorem dX11_pass_50 : decode cX11_pass 50 = .ok (.aload_n 0, 1) := by decide +kernel
theorem dX11_pass_51 : decode cX11_pass 51 = .ok (.getfield 37, 3) := by decide +kernel
theorem dX11_pass_54 : decode cX11_pass 54 = .ok (.aload_n 0, 1) := by decide +kernel
theorem dX11_pass_55 : decode cX11_pass 55 = .ok (.getfield 12, 3) := by decide +kernel
theorem dX11_pass_58 : decode cX11_pass 58 = .ok (.getfield 120, 3) := by decide +kernel
theorem dX11_pass_61 : decode cX11_pass 61 = .ok (.invokevirtual 191, 3) := by decide +kernel
theorem dX11_pass_64 : decode cX11_pass 64 = .ok (.ireturn, 1) := by decide +kernel
theorem dX11_sort_0 : decode cX11_sort 0 = .ok (.iload_n 1, 1) := by decide +kernel
theorem dX11_sort_1 : decode cX11_sort 1 = .ok (.invokestatic 69, 3) := by decide +kernel
theorem dX11_sort_4 : decode cX11_sort 4 = .ok (.ifCond .ne 6, 3) := by decide +kernel
theorem dX11_sort_7 : decode cX11_sort 7 = .ok (.ldc 77, 2) := by decide +kernel
theorem dX11_sort_9 : decode cX11_sort 9 = .ok (.ireturn, 1) := by decide +kernel
theorem dX11_sort_10 : decode cX11_sort 10 = .ok (.aload_n 0, 1) := by decide +kernel
theorem dX11_sort_11 : decode cX11_sort 11 = .ok (.getfield 19, 3) := by decide +kernel
theorem dX11_sort_14 : decode cX11_sort 14 = .ok (.aload_n 0, 1) := by decide +kernel
theorem dX11_sort_15 : decode cX11_sort 15 = .ok (.getfield 12, 3) := by decide +kernel
theorem dX11_sort_18 : decode cX11_sort 18 = .ok (.invokevirtual 78, 3) := by decide +kernel
theorem dX11_sort_21 : decode cX11_sort 21 = .ok (.aload_n 0, 1) := by decide +kernel
theorem dX11_sort_22 : decode cX11_sort 22 = .ok (.getfield 37, 3) := by decide +kernel
theorem dX11_sort_25 : decode cX11_sort 25 = .ok (.aload_n 0, 1) := by decide +kernel
theorem dX11_sort_26 : decode cX11_sort 26 = .ok (.getfield 12, 3) := by decide +kernel
theorem dX11_sort_29 : decode cX11_sort 29 = .ok (.getfield 120, 3) := by decide +kernel
theorem dX11_sort_32 : decode cX11_sort 32 = .ok (.invokevirtual 183, 3) := by decide +kernel
theorem dX11_sort_35 : decode cX11_sort 35 = .ok (.aload_n 0, 1) := by decide +kernel
theorem dX11_sort_36 : decode cX11_sort 36 = .ok (.getfield 12, 3) := by decide +kernel
theorem dX11_sort_39 : decode cX11_sort 39 = .ok (.getfield 82, 3) := by decide +kernel
theorem dX11_sort_42 : decode cX11_sort 42 = .ok (.iload_n 1, 1) := by decide +kernel
theorem dX11_sort_43 : decode cX11_sort 43 = .ok (.invokevirtual 195, 3) := by decide +kernel
theorem dX11_sort_46 : decode cX11_sort 46 = .ok (.iconst 1, 1) := by decide +kernel
theorem dX11_sort_47 : decode cX11_sort 47 = .ok (.isub, 1) := by decide +kernel
theorem dX11_sort_48 : decode cX11_sort 48 = .ok (.istore_n 2, 1) := by decide +kernel
theorem dX11_sort_49 : decode cX11_sort 49 = .ok (.iload_n 2, 1) := by decide +kernel
theorem dX11_sort_50 : decode cX11_sort 50 = .ok (.ifCond .lt 36, 3) := by decide +kernel
theorem dX11_sort_53 : decode cX11_sort 53 = .ok (.aload_n 0, 1) := by decide +kernel
theorem dX11_sort_54 : decode cX11_sort 54 = .ok (.getfield 37, 3) := by decide +kernel
theorem dX11_sort_57 : decode cX11_sort 57 = .ok (.aload_n 0, 1) := by decide +kernel
theorem dX11_sort_58 : decode cX11_sort 58 = .ok (.getfield 12, 3) := by decide +kernel
theorem dX11_sort_61 : decode cX11_sort 61 = .ok (.getfield 120, 3) := by decide +kernel
theorem dX11_sort_64 : decode cX11_sort 64 = .ok (.aload_n 0, 1) := by decide +kernel
theorem dX11_sort_65 : decode cX11_sort 65 = .ok (.getfield 12, 3) := by decide +kernel
theorem dX11_sort_68 : decode cX11_sort 68 = .ok (.getfield 82, 3) := by decide +kernel
theorem dX11_sort_71 : decode cX11_sort 71 = .ok (.iload_n 1, 1) := by decide +kernel
theorem dX11_sort_72 : decode cX11_sort 72 = .ok (.invokevirtual 86, 3) := by decide +kernel
theorem dX11_sort_75 : decode cX11_sort 75 = .ok (.iload_n 2, 1) := by decide +kernel
theorem dX11_sort_76 : decode cX11_sort 76 = .ok (.iadd, 1) := by decide +kernel
theorem dX11_sort_77 : decode cX11_sort 77 = .ok (.invokevirtual 187, 3) := by decide +kernel
theorem dX11_sort_80 : decode cX11_sort 80 = .ok (.iinc 2 (-1), 3) := by decide +kernel
theorem dX11_sort_83 : decode cX11_sort 83 = .ok (.goto (-34), 3) := by decide +kernel
theorem dX11_sort_86 : decode cX11_sort 86 = .ok (.aload_n 0, 1) := by decide +kernel
theorem dX11_sort_87 : decode cX11_sort 87 = .ok (.getfield 37, 3) := by decide +kernel
theorem dX11_sort_90 : decode cX11_sort 90 = .ok (.aload_n 0, 1) := by decide +kernel
theorem dX11_sort_91 : decode cX11_sort 91 = .ok (.getfield 12, 3) := by decide +kernel
theorem dX11_sort_94 : decode cX11_sort 94 = .ok (.getfield 120, 3) := by decide +kernel
theorem dX11_sort_97 : decode cX11_sort 97 = .ok (.invokevirtual 191, 3) := by decide +kernel
theorem dX11_sort_100 : decode cX11_sort 100 = .ok (.ireturn, 1) := by decide +kernel
theorem dX11_run_0 : decode cX11_run 0 = .ok (.aload_n 0, 1) := by decide +kernel
theorem dX11_run_1 : decode cX11_run 1 = .ok (.getfield 19, 3) := by decide +kernel
theorem dX11_run_4 : decode cX11_run 4 = .ok (.aload_n 0, 1) := by decide +kernel
theorem dX11_run_5 : decode cX11_run 5 = .ok (.getfield 12, 3) := by decide +kernel
theorem dX11_run_8 : decode cX11_run 8 = .ok (.invokevirtual 78, 3) := by decide +kernel
theorem dX11_run_11 : decode cX11_run 11 = .ok (.aload_n 0, 1) := by decide +kernel
theorem dX11_run_12 : decode cX11_run 12 = .ok (.getfield 12, 3) := by decide +kernel
theorem dX11_run_15 : decode cX11_run 15 = .ok (.getfield 198, 3) := by decide +kernel
theorem dX11_run_18 : decode cX11_run 18 = .ok (.aload_n 0, 1) := by decide +kernel
theorem dX11_run_19 : decode cX11_run 19 = .ok (.getfield 12, 3) := by decide +kernel
theorem dX11_run_22 : decode cX11_run 22 = .ok (.getfield 120, 3) := by decide +kernel
theorem dX11_run_25 : decode cX11_run 25 = .ok (.invokevirtual 124, 3) := by decide +kernel
theorem dX11_run_28 : decode cX11_run 28 = .ok (.aload_n 0, 1) := by decide +kernel
theorem dX11_run_29 : decode cX11_run 29 = .ok (.getfield 12, 3) := by decide +kernel
theorem dX11_run_32 : decode cX11_run 32 = .ok (.iconst 3, 1) := by decide +kernel
theorem dX11_run_33 : decode cX11_run 33 = .ok (.invokevirtual 106, 3) := by decide +kernel
theorem dX11_run_36 : decode cX11_run 36 = .ok (.invokevirtual 202, 3) := by decide +kernel
theorem dX11_run_39 : decode cX11_run 39 = .ok (.aload_n 0, 1) := by decide +kernel
theorem dX11_run_40 : decode cX11_run 40 = .ok (.getfield 44, 3) := by decide +kernel
theorem dX11_run_43 : decode cX11_run 43 = .ok (.invokevirtual 206, 3) := by decide +kernel
theorem dX11_run_46 : decode cX11_run 46 = .ok (.aload_n 0, 1) := by decide +kernel
theorem dX11_run_47 : decode cX11_run 47 = .ok (.aload_n 0, 1) := by decide +kernel
theorem dX11_run_48 : decode cX11_run 48 = .ok (.getfield 12, 3) := by decide +kernel
theorem dX11_run_51 : decode cX11_run 51 = .ok (.iconst 0, 1) := by decide +kernel
theorem dX11_run_52 : decode cX11_run 52 = .ok (.invokevirtual 106, 3) := by decide +kernel
theorem dX11_run_55 : decode cX11_run 55 = .ok (.iconst 1, 1) := by decide +kernel
theorem dX11_run_56 : decode cX11_run 56 = .ok (.invokevirtual 208, 3) := by decide +kernel
theorem dX11_run_59 : decode cX11_run 59 = .ok (.istore_n 1, 1) := by decide +kernel
theorem dX11_run_60 : decode cX11_run 60 = .ok (.aload_n 0, 1) := by decide +kernel
theorem dX11_run_61 : decode cX11_run 61 = .ok (.getfield 44, 3) := by decide +kernel
theorem dX11_run_64 : decode cX11_run 64 = .ok (.aload_n 0, 1) := by decide +kernel
theorem dX11_run_65 : decode cX11_run 65 = .ok (.getfield 12, 3) := by decide +kernel
theorem dX11_run_68 : decode cX11_run 68 = .ok (.getfield 198, 3) := by decide +kernel
theorem dX11_run_71 : decode cX11_run 71 = .ok (.invokevirtual 212, 3) := by decide +kernel
theorem dX11_run_74 : decode cX11_run 74 = .ok (.iload_n 1, 1) := by decide +kernel
theorem dX11_run_75 : decode cX11_run 75 = .ok (.ireturn, 1) := by decide +kernel
theorem dX11_undo_0 : decode cX11_undo 0 = .ok (.aload_n 0, 1) := by decide +kernel
theorem dX11_undo_1 : decode cX11_undo 1 = .ok (.getfield 19, 3) := by decide +kernel
theorem dX11_undo_4 : decode cX11_undo 4 = .ok (.invokevirtual 216, 3) := by decide +kernel
theorem dX11_undo_7 : decode cX11_undo 7 = .ok (.ifCond .eq 6, 3) := by decide +kernel
theorem dX11_undo_10 : decode cX11_undo 10 = .ok (.ldc 134, 2) := by decide +kernel
theorem dX11_undo_12 : decode cX11_undo 12 = .ok (.ireturn, 1) := by decide +kernel
theorem dX11_undo_13 : decode cX11_undo 13 = .ok (.aload_n 0, 1) := by decide +kernel
theorem dX11_undo_14 : decode cX11_undo 14 = .ok (.getfield 19, 3) := by decide +kernel
theorem dX11_undo_17 : decode cX11_undo 17 = .ok (.aload_n 0, 1) := by decide +kernel
theorem dX11_undo_18 : decode cX11_undo 18 = .ok (.getfield 12, 3) := by decide +kernel
theorem dX11_undo_21 : decode cX11_undo 21 = .ok (.invokevirtual 220, 3) := by decide +kernel
theorem dX11_undo_24 : decode cX11_undo 24 = .ok (.aload_n 0, 1) := by decide +kernel
theorem dX11_undo_25 : decode cX11_undo 25 = .ok (.getfield 19, 3) := by decide +kernel
theorem dX11_undo_28 : decode cX11_undo 28 = .ok (.invokevirtual 223, 3) := by decide +kernel
theorem dX11_undo_31 : decode cX11_undo 31 = .ok (.ireturn, 1) := by decide +kernel
theorem dX11_write_0 : decode cX11_write 0 = .ok (.iload_n 1, 1) := by decide +kernel
theorem dX11_write_1 : decode cX11_write 1 = .ok (.bipush 32, 2) := by decide +kernel
theorem dX11_write_3 : decode cX11_write 3 = .ok (.bipush 126, 2) := by decide +kernel
theorem dX11_write_5 : decode cX11_write 5 = .ok (.invokestatic 103, 3) := by decide +kernel
theorem dX11_write_8 : decode cX11_write 8 = .ok (.ifCond .ne 6, 3) := by decide +kernel
theorem dX11_write_11 : decode cX11_write 11 = .ok (.ldc 77, 2) := by decide +kernel
theorem dX11_write_13 : decode cX11_write 13 = .ok (.ireturn, 1) := by decide +kernel
theorem dX11_write_14 : decode cX11_write 14 = .ok (.aload_n 0, 1) := by decide +kernel
theorem dX11_write_15 : decode cX11_write 15 = .ok (.getfield 30, 3) := by decide +kernel
theorem dX11_write_18 : decode cX11_write 18 = .ok (.invokevirtual 224, 3) := by decide +kernel
theorem dX11_write_21 : decode cX11_write 21 = .ok (.bipush 50, 2) := by decide +kernel
theorem dX11_write_23 : decode cX11_write 23 = .ok (.if_icmp .lt 6, 3) := by decide +kernel
theorem dX11_write_26 : decode cX11_write 26 = .ok (.ldc 135, 2) := by decide +kernel
theorem dX11_write_28 : decode cX11_write 28 = .ok (.ireturn, 1) := by decide +kernel
theorem dX11_write_29 : decode cX11_write 29 = .ok (.aload_n 0, 1) := by decide +kernel
theorem dX11_write_30 : decode cX11_write 30 = .ok (.getfield 30, 3) := by decide +kernel
theorem dX11_write_33 : decode cX11_write 33 = .ok (.iload_n 1, 1) := by decide +kernel
theorem dX11_write_34 : decode cX11_write 34 = .ok (.invokevirtual 225, 3) := by decide +kernel
theorem dX11_write_37 : decode cX11_write 37 = .ok (.aload_n 0, 1) := by decide +kernel
theorem dX11_write_38 : decode cX11_write 38 = .ok (.getfield 30, 3) := by decide +kernel
theorem dX11_write_41 : decode cX11_write 41 = .ok (.invokevirtual 224, 3) := by decide +kernel
theorem dX11_write_44 : decode cX11_write 44 = .ok (.ireturn, 1) := by decide +kernel
theorem dX11_wipe_0 : decode cX11_wipe 0 = .ok (.aload_n 0, 1) := by decide +kernel
theorem dX11_wipe_1 : decode cX11_wipe 1 = .ok (.getfield 30, 3) := by decide +kernel
theorem dX11_wipe_4 : decode cX11_wipe 4 = .ok (.invokevirtual 224, 3) := by decide +kernel
theorem dX11_wipe_7 : decode cX11_wipe 7 = .ok (.istore_n 1, 1) := by decide +kernel
theorem dX11_wipe_8 : decode cX11_wipe 8 = .ok (.aload_n 0, 1) := by decide +kernel
theorem dX11_wipe_9 : decode cX11_wipe 9 = .ok (.getfield 30, 3) := by decide +kernel
theorem dX11_wipe_12 : decode cX11_wipe 12 = .ok (.invokevirtual 228, 3) := by decide +kernel
theorem dX11_wipe_15 : decode cX11_wipe 15 = .ok (.iload_n 1, 1) := by decide +kernel
theorem dX11_wipe_16 : decode cX11_wipe 16 = .ok (.ireturn, 1) := by decide +kernel
theorem dX11_told_0 : decode cX11_told 0 = .ok (.iload_n 1, 1) := by decide +kernel
theorem dX11_told_1 : decode cX11_told 1 = .ok (.tableswitch 135 0 6 #[43, 54, 65, 95, 106, 119, 127], 43) := by decide +kernel
theorem dX11_told_44 : decode cX11_told 44 = .ok (.aload_n 0, 1) := by decide +kernel
theorem dX11_told_45 : decode cX11_told 45 = .ok (.getfield 12, 3) := by decide +kernel
theorem dX11_told_48 : decode cX11_told 48 = .ok (.getfield 120, 3) := by decide +kernel
theorem dX11_told_51 : decode cX11_told 51 = .ok (.invokevirtual 124, 3) := by decide +kernel
theorem dX11_told_54 : decode cX11_told 54 = .ok (.ireturn, 1) := by decide +kernel
theorem dX11_told_55 : decode cX11_told 55 = .ok (.aload_n 0, 1) := by decide +kernel
theorem dX11_told_56 : decode cX11_told 56 = .ok (.getfield 12, 3) := by decide +kernel
theorem dX11_told_59 : decode cX11_told 59 = .ok (.getfield 198, 3) := by decide +kernel
theorem dX11_told_62 : decode cX11_told 62 = .ok (.getfield 237, 3) := by decide +kernel
theorem dX11_told_65 : decode cX11_told 65 = .ok (.ireturn, 1) := by decide +kernel
theorem dX11_told_66 : decode cX11_told 66 = .ok (.aload_n 0, 1) := by decide +kernel
theorem dX11_told_67 : decode cX11_told 67 = .ok (.getfield 12, 3) := by decide +kernel
theorem dX11_told_70 : decode cX11_told 70 = .ok (.getfield 198, 3) := by decide +kernel
theorem dX11_told_73 : decode cX11_told 73 = .ok (.invokevirtual 240, 3) := by decide +kernel
theorem dX11_told_76 : decode cX11_told 76 = .ok (.ifCond .eq 8, 3) := by decide +kernel
theorem dX11_told_79 : decode cX11_told 79 = .ok (.ldc 115, 2) := by decide +kernel
theorem dX11_told_81 : decode cX11_told 81 = .ok (.goto 14, 3) := by decide +kernel
theorem dX11_told_84 : decode cX11_told 84 = .ok (.aload_n 0, 1) := by decide +kernel
theorem dX11_told_85 : decode cX11_told 85 = .ok (.getfield 12, 3) := by decide +kernel
theorem dX11_told_88 : decode cX11_told 88 = .ok (.getfield 198, 3) := by decide +kernel
theorem dX11_told_91 : decode cX11_told 91 = .ok (.iconst 4, 1) := by decide +kernel
theorem dX11_told_92 : decode cX11_told 92 = .ok (.invokevirtual 241, 3) := by decide +kernel
theorem dX11_told_95 : decode cX11_told 95 = .ok (.ireturn, 1) := by decide +kernel
theorem dX11_told_96 : decode cX11_told 96 = .ok (.aload_n 0, 1) := by decide +kernel
theorem dX11_told_97 : decode cX11_told 97 = .ok (.getfield 12, 3) := by decide +kernel
theorem dX11_told_100 : decode cX11_told 100 = .ok (.getfield 198, 3) := by decide +kernel
theorem dX11_told_103 : decode cX11_told 103 = .ok (.invokevirtual 244, 3) := by decide +kernel
theorem dX11_told_106 : decode cX11_told 106 = .ok (.ireturn, 1) := by decide +kernel
theorem dX11_told_107 : decode cX11_told 107 = .ok (.aload_n 0, 1) := by decide +kernel
theorem dX11_told_108 : decode cX11_told 108 = .ok (.invokevirtual 247, 3) := by decide +kernel
theorem dX11_told_111 : decode cX11_told 111 = .ok (.ifCond .eq 7, 3) := by decide +kernel
theorem dX11_told_114 : decode cX11_told 114 = .ok (.iconst 1, 1) := by decide +kernel
theorem dX11_told_115 : decode cX11_told 115 = .ok (.goto 4, 3) := by decide +kernel
theorem dX11_told_118 : decode cX11_told 118 = .ok (.iconst 0, 1) := by decide +kernel
theorem dX11_told_119 : decode cX11_told 119 = .ok (.ireturn, 1) := by decide +kernel
theorem dX11_told_120 : decode cX11_told 120 = .ok (.aload_n 0, 1) := by decide +kernel
theorem dX11_told_121 : decode cX11_told 121 = .ok (.getfield 30, 3) := by decide +kernel
theorem dX11_told_124 : decode cX11_told 124 = .ok (.invokevirtual 224, 3) := by decide +kernel
theorem dX11_told_127 : decode cX11_told 127 = .ok (.ireturn, 1) := by decide +kernel
theorem dX11_told_128 : decode cX11_told 128 = .ok (.aload_n 0, 1) := by decide +kernel
theorem dX11_told_129 : decode cX11_told 129 = .ok (.getfield 19, 3) := by decide +kernel
theorem dX11_told_132 : decode cX11_told 132 = .ok (.invokevirtual 223, 3) := by decide +kernel
theorem dX11_told_135 : decode cX11_told 135 = .ok (.ireturn, 1) := by decide +kernel
theorem dX11_told_136 : decode cX11_told 136 = .ok (.ldc 77, 2) := by decide +kernel
theorem dX11_told_138 : decode cX11_told 138 = .ok (.ireturn, 1) := by decide +kernel
theorem dX11_setting_0 : decode cX11_setting 0 = .ok (.iload_n 1, 1) := by decide +kernel
theorem dX11_setting_1 : decode cX11_setting 1 = .ok (.invokestatic 96, 3) := by decide +kernel
theorem dX11_setting_4 : decode cX11_setting 4 = .ok (.ifCond .eq 14, 3) := by decide +kernel
theorem dX11_setting_7 : decode cX11_setting 7 = .ok (.aload_n 0, 1) := by decide +kernel
theorem dX11_setting_8 : decode cX11_setting 8 = .ok (.getfield 12, 3) := by decide +kernel
theorem dX11_setting_11 : decode cX11_setting 11 = .ok (.iload_n 1, 1) := by decide +kernel
theorem dX11_setting_12 : decode cX11_setting 12 = .ok (.invokevirtual 106, 3) := by decide +kernel
theorem dX11_setting_15 : decode cX11_setting 15 = .ok (.goto 5, 3) := by decide +kernel
theorem dX11_setting_18 : decode cX11_setting 18 = .ok (.ldc 77, 2) := by decide +kernel
theorem dX11_setting_20 : decode cX11_setting 20 = .ok (.ireturn, 1) := by decide +kernel
theorem dX11_card_0 : decode cX11_card 0 = .ok (.aload_n 0, 1) := by decide +kernel
theorem dX11_card_1 : decode cX11_card 1 = .ok (.getfield 12, 3) := by decide +kernel
theorem dX11_card_4 : decode cX11_card 4 = .ok (.getfield 120, 3) := by decide +kernel
theorem dX11_card_7 : decode cX11_card 7 = .ok (.iload_n 1, 1) := by decide +kernel
theorem dX11_card_8 : decode cX11_card 8 = .ok (.invokevirtual 152, 3) := by decide +kernel
theorem dX11_card_11 : decode cX11_card 11 = .ok (.ifCond .ne 6, 3) := by decide +kernel
theorem dX11_card_14 : decode cX11_card 14 = .ok (.ldc 77, 2) := by decide +kernel
theorem dX11_card_16 : decode cX11_card 16 = .ok (.ireturn, 1) := by decide +kernel
theorem dX11_card_17 : decode cX11_card 17 = .ok (.aload_n 0, 1) := by decide +kernel
theorem dX11_card_18 : decode cX11_card 18 = .ok (.getfield 12, 3) := by decide +kernel
theorem dX11_card_21 : decode cX11_card 21 = .ok (.getfield 120, 3) := by decide +kernel
theorem dX11_card_24 : decode cX11_card 24 = .ok (.iload_n 1, 1) := by decide +kernel
theorem dX11_card_25 : decode cX11_card 25 = .ok (.invokevirtual 170, 3) := by decide +kernel
theorem dX11_card_28 : decode cX11_card 28 = .ok (.astore_n 3, 1) := by decide +kernel
theorem dX11_card_29 : decode cX11_card 29 = .ok (.iload_n 2, 1) := by decide +kernel
theorem dX11_card_30 : decode cX11_card 30 = .ok (.invokestatic 69, 3) := by decide +kernel
theorem dX11_card_33 : decode cX11_card 33 = .ok (.ifCond .eq 16, 3) := by decide +kernel
theorem dX11_card_36 : decode cX11_card 36 = .ok (.aload_n 0, 1) := by decide +kernel
theorem dX11_card_37 : decode cX11_card 37 = .ok (.getfield 12, 3) := by decide +kernel
theorem dX11_card_40 : decode cX11_card 40 = .ok (.getfield 82, 3) := by decide +kernel
theorem dX11_card_43 : decode cX11_card 43 = .ok (.aload_n 3, 1) := by decide +kernel
theorem dX11_card_44 : decode cX11_card 44 = .ok (.iload_n 2, 1) := by decide +kernel
theorem dX11_card_45 : decode cX11_card 45 = .ok (.invokevirtual 250, 3) := by decide +kernel
theorem dX11_card_48 : decode cX11_card 48 = .ok (.ireturn, 1) := by decide +kernel
theorem dX11_card_49 : decode cX11_card 49 = .ok (.iload_n 2, 1) := by decide +kernel
theorem dX11_card_50 : decode cX11_card 50 = .ok (.tableswitch 58 6 9 #[30, 42, 47, 52], 30) := by decide +kernel
theorem dX11_card_80 : decode cX11_card 80 = .ok (.aload_n 0, 1) := by decide +kernel
theorem dX11_card_81 : decode cX11_card 81 = .ok (.getfield 12, 3) := by decide +kernel
theorem dX11_card_84 : decode cX11_card 84 = .ok (.getfield 82, 3) := by decide +kernel
theorem dX11_card_87 : decode cX11_card 87 = .ok (.aload_n 3, 1) := by decide +kernel
theorem dX11_card_88 : decode cX11_card 88 = .ok (.invokevirtual 144, 3) := by decide +kernel
theorem dX11_card_91 : decode cX11_card 91 = .ok (.ireturn, 1) := by decide +kernel
theorem dX11_card_92 : decode cX11_card 92 = .ok (.aload_n 3, 1) := by decide +kernel
theorem dX11_card_93 : decode cX11_card 93 = .ok (.getfield 176, 3) := by decide +kernel
theorem dX11_card_96 : decode cX11_card 96 = .ok (.ireturn, 1) := by decide +kernel
theorem dX11_card_97 : decode cX11_card 97 = .ok (.aload_n 3, 1) := by decide +kernel
theorem dX11_card_98 : decode cX11_card 98 = .ok (.getfield 180, 3) := by decide +kernel
theorem dX11_card_101 : decode cX11_card 101 = .ok (.ireturn, 1) := by decide +kernel
theorem dX11_card_102 : decode cX11_card 102 = .ok (.aload_n 0, 1) := by decide +kernel
theorem dX11_card_103 : decode cX11_card 103 = .ok (.aload_n 3, 1) := by decide +kernel
theorem dX11_card_104 : decode cX11_card 104 = .ok (.invokevirtual 254, 3) := by decide +kernel
theorem dX11_card_107 : decode cX11_card 107 = .ok (.ireturn, 1) := by decide +kernel
theorem dX11_card_108 : decode cX11_card 108 = .ok (.ldc 77, 2) := by decide +kernel
theorem dX11_card_110 : decode cX11_card 110 = .ok (.ireturn, 1) := by decide +kernel
theorem dX11_line_0 : decode cX11_line 0 = .ok (.aload_n 0, 1) := by decide +kernel
theorem dX11_line_1 : decode cX11_line 1 = .ok (.getfield 12, 3) := by decide +kernel
theorem dX11_line_4 : decode cX11_line 4 = .ok (.getfield 198, 3) := by decide +kernel
theorem dX11_line_7 : decode cX11_line 7 = .ok (.iload_n 1, 1) := by decide +kernel
theorem dX11_line_8 : decode cX11_line 8 = .ok (.invokevirtual 257, 3) := by decide +kernel
theorem dX11_line_11 : decode cX11_line 11 = .ok (.ifCond .eq 13, 3) := by decide +kernel
theorem dX11_line_14 : decode cX11_line 14 = .ok (.iload_n 2, 1) := by decide +kernel
theorem dX11_line_15 : decode cX11_line 15 = .ok (.iconst 0, 1) := by decide +kernel
theorem dX11_line_16 : decode cX11_line 16 = .ok (.bipush 8, 2) := by decide +kernel
theorem dX11_line_18 : decode cX11_line 18 = .ok (.invokestatic 103, 3) := by decide +kernel
theorem dX11_line_21 : decode cX11_line 21 = .ok (.ifCond .ne 6, 3) := by decide +kernel
theorem dX11_line_24 : decode cX11_line 24 = .ok (.ldc 77, 2) := by decide +kernel
theorem dX11_line_26 : decode cX11_line 26 = .ok (.ireturn, 1) := by decide +kernel
theorem dX11_line_27 : decode cX11_line 27 = .ok (.aload_n 0, 1) := by decide +kernel
theorem dX11_line_28 : decode cX11_line 28 = .ok (.getfield 12, 3) := by decide +kernel
theorem dX11_line_31 : decode cX11_line 31 = .ok (.getfield 198, 3) := by decide +kernel
theorem dX11_line_34 : decode cX11_line 34 = .ok (.iload_n 1, 1) := by decide +kernel
theorem dX11_line_35 : decode cX11_line 35 = .ok (.iload_n 2, 1) := by decide +kernel
theorem dX11_line_36 : decode cX11_line 36 = .ok (.invokevirtual 258, 3) := by decide +kernel
theorem dX11_line_39 : decode cX11_line 39 = .ok (.ireturn, 1) := by decide +kernel
theorem dX11_reason_0 : decode cX11_reason 0 = .ok (.aload_n 0, 1) := by decide +kernel
theorem dX11_reason_1 : decode cX11_reason 1 = .ok (.getfield 12, 3) := by decide +kernel
theorem dX11_reason_4 : decode cX11_reason 4 = .ok (.getfield 198, 3) := by decide +kernel
theorem dX11_reason_7 : decode cX11_reason 7 = .ok (.iload_n 1, 1) := by decide +kernel
theorem dX11_reason_8 : decode cX11_reason 8 = .ok (.invokevirtual 262, 3) := by decide +kernel
theorem dX11_reason_11 : decode cX11_reason 11 = .ok (.ifCond .eq 17, 3) := by decide +kernel
theorem dX11_reason_14 : decode cX11_reason 14 = .ok (.aload_n 0, 1) := by decide +kernel
theorem dX11_reason_15 : decode cX11_reason 15 = .ok (.getfield 12, 3) := by decide +kernel
theorem dX11_reason_18 : decode cX11_reason 18 = .ok (.getfield 198, 3) := by decide +kernel
theorem dX11_reason_21 : decode cX11_reason 21 = .ok (.iload_n 1, 1) := by decide +kernel
theorem dX11_reason_22 : decode cX11_reason 22 = .ok (.invokevirtual 265, 3) := by decide +kernel
theorem dX11_reason_25 : decode cX11_reason 25 = .ok (.goto 5, 3) := by decide +kernel
theorem dX11_reason_28 : decode cX11_reason 28 = .ok (.ldc 77, 2) := by decide +kernel
theorem dX11_reason_30 : decode cX11_reason 30 = .ok (.ireturn, 1) := by decide +kernel
theorem dX11_differs_0 : decode cX11_differs 0 = .ok (.iload_n 1, 1) := by decide +kernel
theorem dX11_differs_1 : decode cX11_differs 1 = .ok (.invokestatic 112, 3) := by decide +kernel
theorem dX11_differs_4 : decode cX11_differs 4 = .ok (.ifCond .ne 6, 3) := by decide +kernel
theorem dX11_differs_7 : decode cX11_differs 7 = .ok (.ldc 77, 2) := by decide +kernel
theorem dX11_differs_9 : decode cX11_differs 9 = .ok (.ireturn, 1) := by decide +kernel
theorem dX11_differs_10 : decode cX11_differs 10 = .ok (.aload_n 0, 1) := by decide +kernel
theorem dX11_differs_11 : decode cX11_differs 11 = .ok (.getfield 12, 3) := by decide +kernel
theorem dX11_differs_14 : decode cX11_differs 14 = .ok (.getfield 117, 3) := by decide +kernel
theorem dX11_differs_17 : decode cX11_differs 17 = .ok (.iload_n 1, 1) := by decide +kernel
theorem dX11_differs_18 : decode cX11_differs 18 = .ok (.iaload, 1) := by decide +kernel
theorem dX11_differs_19 : decode cX11_differs 19 = .ok (.ldc 115, 2) := by decide +kernel
theorem dX11_differs_21 : decode cX11_differs 21 = .ok (.if_icmp .eq 16, 3) := by decide +kernel
theorem dX11_differs_24 : decode cX11_differs 24 = .ok (.aload_n 0, 1) := by decide +kernel
theorem dX11_differs_25 : decode cX11_differs 25 = .ok (.getfield 12, 3) := by decide +kernel
theorem dX11_differs_28 : decode cX11_differs 28 = .ok (.getfield 198, 3) := by decide +kernel
theorem dX11_differs_31 : decode cX11_differs 31 = .ok (.invokevirtual 240, 3) := by decide +kernel
theorem dX11_differs_34 : decode cX11_differs 34 = .ok (.ifCond .eq 6, 3) := by decide +kernel
theorem dX11_differs_37 : decode cX11_differs 37 = .ok (.ldc 115, 2) := by decide +kernel
theorem dX11_differs_39 : decode cX11_differs 39 = .ok (.ireturn, 1) := by decide +kernel
theorem dX11_differs_40 : decode cX11_differs 40 = .ok (.aload_n 0, 1) := by decide +kernel
theorem dX11_differs_41 : decode cX11_differs 41 = .ok (.iload_n 1, 1) := by decide +kernel
theorem dX11_differs_42 : decode cX11_differs 42 = .ok (.invokevirtual 268, 3) := by decide +kernel
theorem dX11_differs_45 : decode cX11_differs 45 = .ok (.aload_n 0, 1) := by decide +kernel
theorem dX11_differs_46 : decode cX11_differs 46 = .ok (.getfield 12, 3) := by decide +kernel
theorem dX11_differs_49 : decode cX11_differs 49 = .ok (.getfield 117, 3) := by decide +kernel
theorem dX11_differs_52 : decode cX11_differs 52 = .ok (.iload_n 1, 1) := by decide +kernel
theorem dX11_differs_53 : decode cX11_differs 53 = .ok (.iaload, 1) := by decide +kernel
theorem dX11_differs_54 : decode cX11_differs 54 = .ok (.isub, 1) := by decide +kernel
theorem dX11_differs_55 : decode cX11_differs 55 = .ok (.ireturn, 1) := by decide +kernel
theorem dX11_again_0 : decode cX11_again 0 = .ok (.iload_n 1, 1) := by decide +kernel
theorem dX11_again_1 : decode cX11_again 1 = .ok (.iconst (-1), 1) := by decide +kernel
theorem dX11_again_2 : decode cX11_again 2 = .ok (.if_icmp .lt 12, 3) := by decide +kernel
theorem dX11_again_5 : decode cX11_again 5 = .ok (.iload_n 2, 1) := by decide +kernel
theorem dX11_again_6 : decode cX11_again 6 = .ok (.iconst 0, 1) := by decide +kernel
theorem dX11_again_7 : decode cX11_again 7 = .ok (.iconst 4, 1) := by decide +kernel
theorem dX11_again_8 : decode cX11_again 8 = .ok (.invokestatic 103, 3) := by decide +kernel
theorem dX11_again_11 : decode cX11_again 11 = .ok (.ifCond .ne 6, 3) := by decide +kernel
theorem dX11_again_14 : decode cX11_again 14 = .ok (.ldc 77, 2) := by decide +kernel
theorem dX11_again_16 : decode cX11_again 16 = .ok (.ireturn, 1) := by decide +kernel
theorem dX11_again_17 : decode cX11_again 17 = .ok (.aload_n 0, 1) := by decide +kernel
theorem dX11_again_18 : decode cX11_again 18 = .ok (.getfield 51, 3) := by decide +kernel
theorem dX11_again_21 : decode cX11_again 21 = .ok (.aload_n 0, 1) := by decide +kernel
theorem dX11_again_22 : decode cX11_again 22 = .ok (.getfield 12, 3) := by decide +kernel
theorem dX11_again_25 : decode cX11_again 25 = .ok (.getfield 198, 3) := by decide +kernel
theorem dX11_again_28 : decode cX11_again 28 = .ok (.invokevirtual 271, 3) := by decide +kernel
theorem dX11_again_31 : decode cX11_again 31 = .ok (.aload_n 0, 1) := by decide +kernel
theorem dX11_again_32 : decode cX11_again 32 = .ok (.getfield 51, 3) := by decide +kernel
theorem dX11_again_35 : decode cX11_again 35 = .ok (.iload_n 1, 1) := by decide +kernel
theorem dX11_again_36 : decode cX11_again 36 = .ok (.iload_n 2, 1) := by decide +kernel
theorem dX11_again_37 : decode cX11_again 37 = .ok (.invokevirtual 274, 3) := by decide +kernel
theorem dX11_again_40 : decode cX11_again 40 = .ok (.ireturn, 1) := by decide +kernel
theorem dX11_agrees_0 : decode cX11_agrees 0 = .ok (.aload_n 0, 1) := by decide +kernel
theorem dX11_agrees_1 : decode cX11_agrees 1 = .ok (.getfield 12, 3) := by decide +kernel
theorem dX11_agrees_4 : decode cX11_agrees 4 = .ok (.getfield 198, 3) := by decide +kernel
theorem dX11_agrees_7 : decode cX11_agrees 7 = .ok (.invokevirtual 240, 3) := by decide +kernel
theorem dX11_agrees_10 : decode cX11_agrees 10 = .ok (.ifCond .eq 5, 3) := by decide +kernel
theorem dX11_agrees_13 : decode cX11_agrees 13 = .ok (.iconst 1, 1) := by decide +kernel
theorem dX11_agrees_14 : decode cX11_agrees 14 = .ok (.ireturn, 1) := by decide +kernel
theorem dX11_agrees_15 : decode cX11_agrees 15 = .ok (.aload_n 0, 1) := by decide +kernel
theorem dX11_agrees_16 : decode cX11_agrees 16 = .ok (.getfield 51, 3) := by decide +kernel
theorem dX11_agrees_19 : decode cX11_agrees 19 = .ok (.aload_n 0, 1) := by decide +kernel
theorem dX11_agrees_20 : decode cX11_agrees 20 = .ok (.getfield 12, 3) := by decide +kernel
theorem dX11_agrees_23 : decode cX11_agrees 23 = .ok (.getfield 198, 3) := by decide +kernel
theorem dX11_agrees_26 : decode cX11_agrees 26 = .ok (.invokevirtual 271, 3) := by decide +kernel
theorem dX11_agrees_29 : decode cX11_agrees 29 = .ok (.aload_n 0, 1) := by decide +kernel
theorem dX11_agrees_30 : decode cX11_agrees 30 = .ok (.getfield 51, 3) := by decide +kernel
theorem dX11_agrees_33 : decode cX11_agrees 33 = .ok (.iconst (-1), 1) := by decide +kernel
theorem dX11_agrees_34 : decode cX11_agrees 34 = .ok (.iconst 0, 1) := by decide +kernel
theorem dX11_agrees_35 : decode cX11_agrees 35 = .ok (.invokevirtual 274, 3) := by decide +kernel
theorem dX11_agrees_38 : decode cX11_agrees 38 = .ok (.aload_n 0, 1) := by decide +kernel
theorem dX11_agrees_39 : decode cX11_agrees 39 = .ok (.getfield 12, 3) := by decide +kernel
theorem dX11_agrees_42 : decode cX11_agrees 42 = .ok (.getfield 198, 3) := by decide +kernel
theorem dX11_agrees_45 : decode cX11_agrees 45 = .ok (.iconst 4, 1) := by decide +kernel
theorem dX11_agrees_46 : decode cX11_agrees 46 = .ok (.invokevirtual 241, 3) := by decide +kernel
theorem dX11_agrees_49 : decode cX11_agrees 49 = .ok (.if_icmp .ne 78, 3) := by decide +kernel
theorem dX11_agrees_52 : decode cX11_agrees 52 = .ok (.aload_n 0, 1) := by decide +kernel
theorem dX11_agrees_53 : decode cX11_agrees 53 = .ok (.getfield 51, 3) := by decide +kernel
theorem dX11_agrees_56 : decode cX11_agrees 56 = .ok (.iconst (-1), 1) := by decide +kernel
theorem dX11_agrees_57 : decode cX11_agrees 57 = .ok (.iconst 1, 1) := by decide +kernel
theorem dX11_agrees_58 : decode cX11_agrees 58 = .ok (.invokevirtual 274, 3) := by decide +kernel
theorem dX11_agrees_61 : decode cX11_agrees 61 = .ok (.aload_n 0, 1) := by decide +kernel
theorem dX11_agrees_62 : decode cX11_agrees 62 = .ok (.getfield 12, 3) := by decide +kernel
theorem dX11_agrees_65 : decode cX11_agrees 65 = .ok (.getfield 198, 3) := by decide +kernel
theorem dX11_agrees_68 : decode cX11_agrees 68 = .ok (.iconst 5, 1) := by decide +kernel
theorem dX11_agrees_69 : decode cX11_agrees 69 = .ok (.invokevirtual 241, 3) := by decide +kernel
theorem dX11_agrees_72 : decode cX11_agrees 72 = .ok (.if_icmp .ne 55, 3) := by decide +kernel
theorem dX11_agrees_75 : decode cX11_agrees 75 = .ok (.aload_n 0, 1) := by decide +kernel
theorem dX11_agrees_76 : decode cX11_agrees 76 = .ok (.getfield 51, 3) := by decide +kernel
theorem dX11_agrees_79 : decode cX11_agrees 79 = .ok (.iconst (-1), 1) := by decide +kernel
theorem dX11_agrees_80 : decode cX11_agrees 80 = .ok (.iconst 2, 1) := by decide +kernel
theorem dX11_agrees_81 : decode cX11_agrees 81 = .ok (.invokevirtual 274, 3) := by decide +kernel
theorem dX11_agrees_84 : decode cX11_agrees 84 = .ok (.aload_n 0, 1) := by decide +kernel
theorem dX11_agrees_85 : decode cX11_agrees 85 = .ok (.getfield 12, 3) := by decide +kernel
theorem dX11_agrees_88 : decode cX11_agrees 88 = .ok (.getfield 198, 3) := by decide +kernel
theorem dX11_agrees_91 : decode cX11_agrees 91 = .ok (.bipush 6, 2) := by decide +kernel
theorem dX11_agrees_93 : decode cX11_agrees 93 = .ok (.invokevirtual 241, 3) := by decide +kernel
theorem dX11_agrees_96 : decode cX11_agrees 96 = .ok (.if_icmp .ne 31, 3) := by decide +kernel
theorem dX11_agrees_99 : decode cX11_agrees 99 = .ok (.aload_n 0, 1) := by decide +kernel
theorem dX11_agrees_100 : decode cX11_agrees 100 = .ok (.getfield 51, 3) := by decide +kernel
theorem dX11_agrees_103 : decode cX11_agrees 103 = .ok (.iconst (-1), 1) := by decide +kernel
theorem dX11_agrees_104 : decode cX11_agrees 104 = .ok (.iconst 3, 1) := by decide +kernel
theorem dX11_agrees_105 : decode cX11_agrees 105 = .ok (.invokevirtual 274, 3) := by decide +kernel
theorem dX11_agrees_108 : decode cX11_agrees 108 = .ok (.aload_n 0, 1) := by decide +kernel
theorem dX11_agrees_109 : decode cX11_agrees 109 = .ok (.getfield 12, 3) := by decide +kernel
theorem dX11_agrees_112 : decode cX11_agrees 112 = .ok (.getfield 198, 3) := by decide +kernel
theorem dX11_agrees_115 : decode cX11_agrees 115 = .ok (.bipush 7, 2) := by decide +kernel
theorem dX11_agrees_117 : decode cX11_agrees 117 = .ok (.invokevirtual 241, 3) := by decide +kernel
theorem dX11_agrees_120 : decode cX11_agrees 120 = .ok (.if_icmp .ne 7, 3) := by decide +kernel
theorem dX11_agrees_123 : decode cX11_agrees 123 = .ok (.iconst 1, 1) := by decide +kernel
theorem dX11_agrees_124 : decode cX11_agrees 124 = .ok (.goto 4, 3) := by decide +kernel
theorem dX11_agrees_127 : decode cX11_agrees 127 = .ok (.iconst 0, 1) := by decide +kernel
theorem dX11_agrees_128 : decode cX11_agrees 128 = .ok (.istore_n 1, 1) := by decide +kernel
theorem dX11_agrees_129 : decode cX11_agrees 129 = .ok (.iload_n 1, 1) := by decide +kernel
theorem dX11_agrees_130 : decode cX11_agrees 130 = .ok (.ifCond .eq 7, 3) := by decide +kernel
theorem dX11_agrees_133 : decode cX11_agrees 133 = .ok (.iconst 1, 1) := by decide +kernel
theorem dX11_agrees_134 : decode cX11_agrees 134 = .ok (.goto 4, 3) := by decide +kernel
theorem dX11_agrees_137 : decode cX11_agrees 137 = .ok (.iconst 0, 1) := by decide +kernel
theorem dX11_agrees_138 : decode cX11_agrees 138 = .ok (.ireturn, 1) := by decide +kernel
theorem dX11_ranked_0 : decode cX11_ranked 0 = .ok (.iload_n 1, 1) := by decide +kernel
theorem dX11_ranked_1 : decode cX11_ranked 1 = .ok (.ifCond .lt 12, 3) := by decide +kernel
theorem dX11_ranked_4 : decode cX11_ranked 4 = .ok (.iload_n 2, 1) := by decide +kernel
theorem dX11_ranked_5 : decode cX11_ranked 5 = .ok (.iconst 0, 1) := by decide +kernel
theorem dX11_ranked_6 : decode cX11_ranked 6 = .ok (.iconst 3, 1) := by decide +kernel
theorem dX11_ranked_7 : decode cX11_ranked 7 = .ok (.invokestatic 103, 3) := by decide +kernel
theorem dX11_ranked_10 : decode cX11_ranked 10 = .ok (.ifCond .ne 6, 3) := by decide +kernel
theorem dX11_ranked_13 : decode cX11_ranked 13 = .ok (.ldc 77, 2) := by decide +kernel
theorem dX11_ranked_15 : decode cX11_ranked 15 = .ok (.ireturn, 1) := by decide +kernel
theorem dX11_ranked_16 : decode cX11_ranked 16 = .ok (.aload_n 0, 1) := by decide +kernel
theorem dX11_ranked_17 : decode cX11_ranked 17 = .ok (.getfield 51, 3) := by decide +kernel
theorem dX11_ranked_20 : decode cX11_ranked 20 = .ok (.aload_n 0, 1) := by decide +kernel
theorem dX11_ranked_21 : decode cX11_ranked 21 = .ok (.getfield 12, 3) := by decide +kernel
theorem dX11_ranked_24 : decode cX11_ranked 24 = .ok (.getfield 198, 3) := by decide +kernel
theorem dX11_ranked_27 : decode cX11_ranked 27 = .ok (.invokevirtual 271, 3) := by decide +kernel
theorem dX11_ranked_30 : decode cX11_ranked 30 = .ok (.iload_n 1, 1) := by decide +kernel
theorem dX11_ranked_31 : decode cX11_ranked 31 = .ok (.aload_n 0, 1) := by decide +kernel
theorem dX11_ranked_32 : decode cX11_ranked 32 = .ok (.getfield 51, 3) := by decide +kernel
theorem dX11_ranked_35 : decode cX11_ranked 35 = .ok (.invokevirtual 277, 3) := by decide +kernel
theorem dX11_ranked_38 : decode cX11_ranked 38 = .ok (.if_icmp .lt 6, 3) := by decide +kernel
theorem dX11_ranked_41 : decode cX11_ranked 41 = .ok (.ldc 115, 2) := by decide +kernel
theorem dX11_ranked_43 : decode cX11_ranked 43 = .ok (.ireturn, 1) := by decide +kernel
theorem dX11_ranked_44 : decode cX11_ranked 44 = .ok (.aload_n 0, 1) := by decide +kernel
theorem dX11_ranked_45 : decode cX11_ranked 45 = .ok (.getfield 51, 3) := by decide +kernel
theorem dX11_ranked_48 : decode cX11_ranked 48 = .ok (.invokevirtual 278, 3) := by decide +kernel
theorem dX11_ranked_51 : decode cX11_ranked 51 = .ok (.aload_n 0, 1) := by decide +kernel
theorem dX11_ranked_52 : decode cX11_ranked 52 = .ok (.getfield 51, 3) := by decide +kernel
theorem dX11_ranked_55 : decode cX11_ranked 55 = .ok (.iload_n 1, 1) := by decide +kernel
theorem dX11_ranked_56 : decode cX11_ranked 56 = .ok (.invokevirtual 281, 3) := by decide +kernel
theorem dX11_ranked_59 : decode cX11_ranked 59 = .ok (.astore_n 3, 1) := by decide +kernel
theorem dX11_ranked_60 : decode cX11_ranked 60 = .ok (.iload_n 2, 1) := by decide +kernel
theorem dX11_ranked_61 : decode cX11_ranked 61 = .ok (.tableswitch 42 0 2 #[27, 32, 37], 27) := by decide +kernel
theorem dX11_ranked_88 : decode cX11_ranked 88 = .ok (.aload_n 3, 1) := by decide +kernel
theorem dX11_ranked_89 : decode cX11_ranked 89 = .ok (.getfield 284, 3) := by decide +kernel
theorem dX11_ranked_92 : decode cX11_ranked 92 = .ok (.ireturn, 1) := by decide +kernel
theorem dX11_ranked_93 : decode cX11_ranked 93 = .ok (.aload_n 3, 1) := by decide +kernel
theorem dX11_ranked_94 : decode cX11_ranked 94 = .ok (.getfield 287, 3) := by decide +kernel
theorem dX11_ranked_97 : decode cX11_ranked 97 = .ok (.ireturn, 1) := by decide +kernel
theorem dX11_ranked_98 : decode cX11_ranked 98 = .ok (.aload_n 3, 1) := by decide +kernel
theorem dX11_ranked_99 : decode cX11_ranked 99 = .ok (.getfield 290, 3) := by decide +kernel
theorem dX11_ranked_102 : decode cX11_ranked 102 = .ok (.ireturn, 1) := by decide +kernel
theorem dX11_ranked_103 : decode cX11_ranked 103 = .ok (.aload_n 3, 1) := by decide +kernel
theorem dX11_ranked_104 : decode cX11_ranked 104 = .ok (.getfield 293, 3) := by decide +kernel
theorem dX11_ranked_107 : decode cX11_ranked 107 = .ok (.ireturn, 1) := by decide +kernel
theorem dX11_mean_0 : decode cX11_mean 0 = .ok (.aload_n 0, 1) := by decide +kernel
theorem dX11_mean_1 : decode cX11_mean 1 = .ok (.getfield 12, 3) := by decide +kernel
theorem dX11_mean_4 : decode cX11_mean 4 = .ok (.getfield 198, 3) := by decide +kernel
theorem dX11_mean_7 : decode cX11_mean 7 = .ok (.iconst 5, 1) := by decide +kernel
theorem dX11_mean_8 : decode cX11_mean 8 = .ok (.invokevirtual 241, 3) := by decide +kernel
theorem dX11_mean_11 : decode cX11_mean 11 = .ok (.istore_n 1, 1) := by decide +kernel
theorem dX11_mean_12 : decode cX11_mean 12 = .ok (.iload_n 1, 1) := by decide +kernel
theorem dX11_mean_13 : decode cX11_mean 13 = .ok (.ifCond .gt 5, 3) := by decide +kernel
theorem dX11_mean_16 : decode cX11_mean 16 = .ok (.fconst 0, 1) := by decide +kernel
theorem dX11_mean_17 : decode cX11_mean 17 = .ok (.freturn, 1) := by decide +kernel
theorem dX11_mean_18 : decode cX11_mean 18 = .ok (.ldc2_w 296, 3) := by decide +kernel
theorem dX11_mean_21 : decode cX11_mean 21 = .ok (.aload_n 0, 1) := by decide +kernel
theorem dX11_mean_22 : decode cX11_mean 22 = .ok (.getfield 12, 3) := by decide +kernel
theorem dX11_mean_25 : decode cX11_mean 25 = .ok (.getfield 198, 3) := by decide +kernel
theorem dX11_mean_28 : decode cX11_mean 28 = .ok (.bipush 6, 2) := by decide +kernel
theorem dX11_mean_30 : decode cX11_mean 30 = .ok (.invokevirtual 241, 3) := by decide +kernel
theorem dX11_mean_33 : decode cX11_mean 33 = .ok (.i2l, 1) := by decide +kernel
theorem dX11_mean_34 : decode cX11_mean 34 = .ok (.lmul, 1) := by decide +kernel
theorem dX11_mean_35 : decode cX11_mean 35 = .ok (.l2f, 1) := by decide +kernel
theorem dX11_mean_36 : decode cX11_mean 36 = .ok (.iload_n 1, 1) := by decide +kernel
theorem dX11_mean_37 : decode cX11_mean 37 = .ok (.i2f, 1) := by decide +kernel
theorem dX11_mean_38 : decode cX11_mean 38 = .ok (.fdiv, 1) := by decide +kernel
theorem dX11_mean_39 : decode cX11_mean 39 = .ok (.freturn, 1) := by decide +kernel
theorem dX11_passes_0 : decode cX11_passes 0 = .ok (.iconst 0, 1) := by decide +kernel
theorem dX11_passes_1 : decode cX11_passes 1 = .ok (.istore_n 1, 1) := by decide +kernel
theorem dX11_passes_2 : decode cX11_passes 2 = .ok (.iconst 0, 1) := by decide +kernel
theorem dX11_passes_3 : decode cX11_passes 3 = .ok (.istore_n 2, 1) := by decide +kernel
theorem dX11_passes_4 : decode cX11_passes 4 = .ok (.iload_n 2, 1) := by decide +kernel
theorem dX11_passes_5 : decode cX11_passes 5 = .ok (.iconst 2, 1) := by decide +kernel
theorem dX11_passes_6 : decode cX11_passes 6 = .ok (.if_icmp .gt 23, 3) := by decide +kernel
theorem dX11_passes_9 : decode cX11_passes 9 = .ok (.iload_n 1, 1) := by decide +kernel
theorem dX11_passes_10 : decode cX11_passes 10 = .ok (.aload_n 0, 1) := by decide +kernel
theorem dX11_passes_11 : decode cX11_passes 11 = .ok (.getfield 12, 3) := by decide +kernel
theorem dX11_passes_14 : decode cX11_passes 14 = .ok (.getfield 82, 3) := by decide +kernel
theorem dX11_passes_17 : decode cX11_passes 17 = .ok (.iload_n 2, 1) := by decide +kernel
theorem dX11_passes_18 : decode cX11_passes 18 = .ok (.invokevirtual 195, 3) := by decide +kernel
theorem dX11_passes_21 : decode cX11_passes 21 = .ok (.iadd, 1) := by decide +kernel
theorem dX11_passes_22 : decode cX11_passes 22 = .ok (.istore_n 1, 1) := by decide +kernel
theorem dX11_passes_23 : decode cX11_passes 23 = .ok (.iinc 2 1, 3) := by decide +kernel
theorem dX11_passes_26 : decode cX11_passes 26 = .ok (.goto (-22), 3) := by decide +kernel
theorem dX11_passes_29 : decode cX11_passes 29 = .ok (.iconst 0, 1) := by decide +kernel
theorem dX11_passes_30 : decode cX11_passes 30 = .ok (.istore_n 2, 1) := by decide +kernel
theorem dX11_passes_31 : decode cX11_passes 31 = .ok (.iload_n 2, 1) := by decide +kernel
theorem dX11_passes_32 : decode cX11_passes 32 = .ok (.iload_n 1, 1) := by decide +kernel
theorem dX11_passes_33 : decode cX11_passes 33 = .ok (.if_icmp .gt 56, 3) := by decide +kernel
theorem dX11_passes_36 : decode cX11_passes 36 = .ok (.aload_n 0, 1) := by decide +kernel
theorem dX11_passes_37 : decode cX11_passes 37 = .ok (.getfield 37, 3) := by decide +kernel
theorem dX11_passes_40 : decode cX11_passes 40 = .ok (.aload_n 0, 1) := by decide +kernel
theorem dX11_passes_41 : decode cX11_passes 41 = .ok (.getfield 12, 3) := by decide +kernel
theorem dX11_passes_44 : decode cX11_passes 44 = .ok (.getfield 120, 3) := by decide +kernel
theorem dX11_passes_47 : decode cX11_passes 47 = .ok (.invokevirtual 183, 3) := by decide +kernel
theorem dX11_passes_50 : decode cX11_passes 50 = .ok (.aload_n 0, 1) := by decide +kernel
theorem dX11_passes_51 : decode cX11_passes 51 = .ok (.iload_n 1, 1) := by decide +kernel
theorem dX11_passes_52 : decode cX11_passes 52 = .ok (.iload_n 2, 1) := by decide +kernel
theorem dX11_passes_53 : decode cX11_passes 53 = .ok (.isub, 1) := by decide +kernel
theorem dX11_passes_54 : decode cX11_passes 54 = .ok (.invokevirtual 298, 3) := by decide +kernel
theorem dX11_passes_57 : decode cX11_passes 57 = .ok (.aload_n 0, 1) := by decide +kernel
theorem dX11_passes_58 : decode cX11_passes 58 = .ok (.getfield 37, 3) := by decide +kernel
theorem dX11_passes_61 : decode cX11_passes 61 = .ok (.aload_n 0, 1) := by decide +kernel
theorem dX11_passes_62 : decode cX11_passes 62 = .ok (.getfield 12, 3) := by decide +kernel
theorem dX11_passes_65 : decode cX11_passes 65 = .ok (.getfield 120, 3) := by decide +kernel
theorem dX11_passes_68 : decode cX11_passes 68 = .ok (.aload_n 0, 1) := by decide +kernel
theorem dX11_passes_69 : decode cX11_passes 69 = .ok (.getfield 12, 3) := by decide +kernel
theorem dX11_passes_72 : decode cX11_passes 72 = .ok (.getfield 82, 3) := by decide +kernel
theorem dX11_passes_75 : decode cX11_passes 75 = .ok (.invokevirtual 301, 3) := by decide +kernel
theorem dX11_passes_78 : decode cX11_passes 78 = .ok (.ifCond .eq 5, 3) := by decide +kernel
theorem dX11_passes_81 : decode cX11_passes 81 = .ok (.iload_n 2, 1) := by decide +kernel
theorem dX11_passes_82 : decode cX11_passes 82 = .ok (.ireturn, 1) := by decide +kernel
theorem dX11_passes_83 : decode cX11_passes 83 = .ok (.iinc 2 1, 3) := by decide +kernel
theorem dX11_passes_86 : decode cX11_passes 86 = .ok (.goto (-55), 3) := by decide +kernel
theorem dX11_passes_89 : decode cX11_passes 89 = .ok (.ldc 115, 2) := by decide +kernel
theorem dX11_passes_91 : decode cX11_passes 91 = .ok (.ireturn, 1) := by decide +kernel
theorem dX11_accepts_0 : decode cX11_accepts 0 = .ok (.iload_n 1, 1) := by decide +kernel
theorem dX11_accepts_1 : decode cX11_accepts 1 = .ok (.iconst 0, 1) := by decide +kernel
theorem dX11_accepts_2 : decode cX11_accepts 2 = .ok (.getstatic 99, 3) := by decide +kernel
theorem dX11_accepts_5 : decode cX11_accepts 5 = .ok (.iconst 0, 1) := by decide +kernel
theorem dX11_accepts_6 : decode cX11_accepts 6 = .ok (.iaload, 1) := by decide +kernel
theorem dX11_accepts_7 : decode cX11_accepts 7 = .ok (.invokestatic 103, 3) := by decide +kernel
theorem dX11_accepts_10 : decode cX11_accepts 10 = .ok (.ifCond .ne 6, 3) := by decide +kernel
theorem dX11_accepts_13 : decode cX11_accepts 13 = .ok (.ldc 77, 2) := by decide +kernel
theorem dX11_accepts_15 : decode cX11_accepts 15 = .ok (.ireturn, 1) := by decide +kernel
theorem dX11_accepts_16 : decode cX11_accepts 16 = .ok (.aload_n 0, 1) := by decide +kernel
theorem dX11_accepts_17 : decode cX11_accepts 17 = .ok (.iload_n 1, 1) := by decide +kernel
theorem dX11_accepts_18 : decode cX11_accepts 18 = .ok (.iconst 0, 1) := by decide +kernel
theorem dX11_accepts_19 : decode cX11_accepts 19 = .ok (.invokevirtual 208, 3) := by decide +kernel
theorem dX11_accepts_22 : decode cX11_accepts 22 = .ok (.ireturn, 1) := by decide +kernel
theorem dX11_keep_0 : decode cX11_keep 0 = .ok (.iload_n 1, 1) := by decide +kernel
theorem dX11_keep_1 : decode cX11_keep 1 = .ok (.iconst 0, 1) := by decide +kernel
theorem dX11_keep_2 : decode cX11_keep 2 = .ok (.iconst 1, 1) := by decide +kernel
theorem dX11_keep_3 : decode cX11_keep 3 = .ok (.invokestatic 103, 3) := by decide +kernel
theorem dX11_keep_6 : decode cX11_keep 6 = .ok (.ifCond .ne 6, 3) := by decide +kernel
theorem dX11_keep_9 : decode cX11_keep 9 = .ok (.ldc 77, 2) := by decide +kernel
theorem dX11_keep_11 : decode cX11_keep 11 = .ok (.ireturn, 1) := by decide +kernel
theorem dX11_keep_12 : decode cX11_keep 12 = .ok (.aload_n 0, 1) := by decide +kernel
theorem dX11_keep_13 : decode cX11_keep 13 = .ok (.getfield 23, 3) := by decide +kernel
theorem dX11_keep_16 : decode cX11_keep 16 = .ok (.iload_n 1, 1) := by decide +kernel
theorem dX11_keep_17 : decode cX11_keep 17 = .ok (.aaload, 1) := by decide +kernel
theorem dX11_keep_18 : decode cX11_keep 18 = .ok (.astore_n 2, 1) := by decide +kernel
theorem dX11_keep_19 : decode cX11_keep 19 = .ok (.aload_n 2, 1) := by decide +kernel
theorem dX11_keep_20 : decode cX11_keep 20 = .ok (.ifnonnull 18, 3) := by decide +kernel
theorem dX11_keep_23 : decode cX11_keep 23 = .ok (.new 9, 3) := by decide +kernel
theorem dX11_keep_26 : decode cX11_keep 26 = .ok (.dup, 1) := by decide +kernel
theorem dX11_keep_27 : decode cX11_keep 27 = .ok (.invokespecial 11, 3) := by decide +kernel
theorem dX11_keep_30 : decode cX11_keep 30 = .ok (.astore_n 2, 1) := by decide +kernel
theorem dX11_keep_31 : decode cX11_keep 31 = .ok (.aload_n 0, 1) := by decide +kernel
theorem dX11_keep_32 : decode cX11_keep 32 = .ok (.getfield 23, 3) := by decide +kernel
theorem dX11_keep_35 : decode cX11_keep 35 = .ok (.iload_n 1, 1) := by decide +kernel
theorem dX11_keep_36 : decode cX11_keep 36 = .ok (.aload_n 2, 1) := by decide +kernel
theorem dX11_keep_37 : decode cX11_keep 37 = .ok (.aastore, 1) := by decide +kernel
theorem dX11_keep_38 : decode cX11_keep 38 = .ok (.aload_n 2, 1) := by decide +kernel
theorem dX11_keep_39 : decode cX11_keep 39 = .ok (.aload_n 0, 1) := by decide +kernel
theorem dX11_keep_40 : decode cX11_keep 40 = .ok (.getfield 12, 3) := by decide +kernel
theorem dX11_keep_43 : decode cX11_keep 43 = .ok (.invokevirtual 305, 3) := by decide +kernel
theorem dX11_keep_46 : decode cX11_keep 46 = .ok (.aload_n 0, 1) := by decide +kernel
theorem dX11_keep_47 : decode cX11_keep 47 = .ok (.getfield 12, 3) := by decide +kernel
theorem dX11_keep_50 : decode cX11_keep 50 = .ok (.getfield 120, 3) := by decide +kernel
theorem dX11_keep_53 : decode cX11_keep 53 = .ok (.invokevirtual 124, 3) := by decide +kernel
theorem dX11_keep_56 : decode cX11_keep 56 = .ok (.ireturn, 1) := by decide +kernel
theorem dX11_back_0 : decode cX11_back 0 = .ok (.iload_n 1, 1) := by decide +kernel
theorem dX11_back_1 : decode cX11_back 1 = .ok (.iconst 0, 1) := by decide +kernel
theorem dX11_back_2 : decode cX11_back 2 = .ok (.iconst 1, 1) := by decide +kernel
theorem dX11_back_3 : decode cX11_back 3 = .ok (.invokestatic 103, 3) := by decide +kernel
theorem dX11_back_6 : decode cX11_back 6 = .ok (.ifCond .ne 6, 3) := by decide +kernel
theorem dX11_back_9 : decode cX11_back 9 = .ok (.ldc 77, 2) := by decide +kernel
theorem dX11_back_11 : decode cX11_back 11 = .ok (.ireturn, 1) := by decide +kernel
theorem dX11_back_12 : decode cX11_back 12 = .ok (.aload_n 0, 1) := by decide +kernel
theorem dX11_back_13 : decode cX11_back 13 = .ok (.getfield 23, 3) := by decide +kernel
theorem dX11_back_16 : decode cX11_back 16 = .ok (.iload_n 1, 1) := by decide +kernel
theorem dX11_back_17 : decode cX11_back 17 = .ok (.aaload, 1) := by decide +kernel
theorem dX11_back_18 : decode cX11_back 18 = .ok (.astore_n 2, 1) := by decide +kernel
theorem dX11_back_19 : decode cX11_back 19 = .ok (.aload_n 2, 1) := by decide +kernel
theorem dX11_back_20 : decode cX11_back 20 = .ok (.ifnonnull 6, 3) := by decide +kernel
theorem dX11_back_23 : decode cX11_back 23 = .ok (.ldc 134, 2) := by decide +kernel
theorem dX11_back_25 : decode cX11_back 25 = .ok (.ireturn, 1) := by decide +kernel
theorem dX11_back_26 : decode cX11_back 26 = .ok (.aload_n 0, 1) := by decide +kernel
theorem dX11_back_27 : decode cX11_back 27 = .ok (.getfield 19, 3) := by decide +kernel
theorem dX11_back_30 : decode cX11_back 30 = .ok (.aload_n 0, 1) := by decide +kernel
theorem dX11_back_31 : decode cX11_back 31 = .ok (.getfield 12, 3) := by decide +kernel
theorem dX11_back_34 : decode cX11_back 34 = .ok (.invokevirtual 78, 3) := by decide +kernel
theorem dX11_back_37 : decode cX11_back 37 = .ok (.aload_n 0, 1) := by decide +kernel
theorem dX11_back_38 : decode cX11_back 38 = .ok (.getfield 12, 3) := by decide +kernel
theorem dX11_back_41 : decode cX11_back 41 = .ok (.aload_n 2, 1) := by decide +kernel
theorem dX11_back_42 : decode cX11_back 42 = .ok (.invokevirtual 305, 3) := by decide +kernel
theorem dX11_back_45 : decode cX11_back 45 = .ok (.aload_n 0, 1) := by decide +kernel
theorem dX11_back_46 : decode cX11_back 46 = .ok (.getfield 12, 3) := by decide +kernel
theorem dX11_back_49 : decode cX11_back 49 = .ok (.getfield 120, 3) := by decide +kernel
theorem dX11_back_52 : decode cX11_back 52 = .ok (.invokevirtual 124, 3) := by decide +kernel
theorem dX11_back_55 : decode cX11_back 55 = .ok (.ireturn, 1) := by decide +kernel
theorem dX11_feedDeck_0 : decode cX11_feedDeck 0 = .ok (.iconst 0, 1) := by decide +kernel
theorem dX11_feedDeck_1 : decode cX11_feedDeck 1 = .ok (.istore_n 3, 1) := by decide +kernel
theorem dX11_feedDeck_2 : decode cX11_feedDeck 2 = .ok (.ldc2_w 308, 3) := by decide +kernel
theorem dX11_feedDeck_5 : decode cX11_feedDeck 5 = .ok (.lstore 4, 2) := by decide +kernel
theorem dX11_feedDeck_7 : decode cX11_feedDeck 7 = .ok (.iconst 0, 1) := by decide +kernel
theorem dX11_feedDeck_8 : decode cX11_feedDeck 8 = .ok (.istore 6, 2) := by decide +kernel
theorem dX11_feedDeck_10 : decode cX11_feedDeck 10 = .ok (.iconst 0, 1) := by decide +kernel
theorem dX11_feedDeck_11 : decode cX11_feedDeck 11 = .ok (.istore 7, 2) := by decide +kernel
theorem dX11_feedDeck_13 : decode cX11_feedDeck 13 = .ok (.iload 7, 2) := by decide +kernel
theorem dX11_feedDeck_15 : decode cX11_feedDeck 15 = .ok (.aload_n 0, 1) := by decide +kernel
theorem dX11_feedDeck_16 : decode cX11_feedDeck 16 = .ok (.getfield 12, 3) := by decide +kernel
theorem dX11_feedDeck_19 : decode cX11_feedDeck 19 = .ok (.getfield 120, 3) := by decide +kernel
theorem dX11_feedDeck_22 : decode cX11_feedDeck 22 = .ok (.invokevirtual 124, 3) := by decide +kernel
theorem dX11_feedDeck_25 : decode cX11_feedDeck 25 = .ok (.if_icmp .ge 87, 3) := by decide +kernel
theorem dX11_feedDeck_28 : decode cX11_feedDeck 28 = .ok (.iload 6, 2) := by decide +kernel
theorem dX11_feedDeck_30 : decode cX11_feedDeck 30 = .ok (.ifCond .eq 8, 3) := by decide +kernel
theorem dX11_feedDeck_33 : decode cX11_feedDeck 33 = .ok (.bipush 6, 2) := by decide +kernel
theorem dX11_feedDeck_35 : decode cX11_feedDeck 35 = .ok (.goto 22, 3) := by decide +kernel
theorem dX11_feedDeck_38 : decode cX11_feedDeck 38 = .ok (.aload_n 0, 1) := by decide +kernel
theorem dX11_feedDeck_39 : decode cX11_feedDeck 39 = .ok (.aload_n 0, 1) := by decide +kernel
theorem dX11_feedDeck_40 : decode cX11_feedDeck 40 = .ok (.getfield 12, 3) := by decide +kernel
theorem dX11_feedDeck_43 : decode cX11_feedDeck 43 = .ok (.getfield 120, 3) := by decide +kernel
theorem dX11_feedDeck_46 : decode cX11_feedDeck 46 = .ok (.iload 7, 2) := by decide +kernel
theorem dX11_feedDeck_48 : decode cX11_feedDeck 48 = .ok (.invokevirtual 170, 3) := by decide +kernel
theorem dX11_feedDeck_51 : decode cX11_feedDeck 51 = .ok (.iload_n 1, 1) := by decide +kernel
theorem dX11_feedDeck_52 : decode cX11_feedDeck 52 = .ok (.lload 4, 2) := by decide +kernel
theorem dX11_feedDeck_54 : decode cX11_feedDeck 54 = .ok (.invokevirtual 310, 3) := by decide +kernel
theorem dX11_feedDeck_57 : decode cX11_feedDeck 57 = .ok (.istore 8, 2) := by decide +kernel
theorem dX11_feedDeck_59 : decode cX11_feedDeck 59 = .ok (.iload 8, 2) := by decide +kernel
theorem dX11_feedDeck_61 : decode cX11_feedDeck 61 = .ok (.iconst 5, 1) := by decide +kernel
theorem dX11_feedDeck_62 : decode cX11_feedDeck 62 = .ok (.if_icmp .ne 15, 3) := by decide +kernel
theorem dX11_feedDeck_65 : decode cX11_feedDeck 65 = .ok (.iload_n 1, 1) := by decide +kernel
theorem dX11_feedDeck_66 : decode cX11_feedDeck 66 = .ok (.iconst 2, 1) := by decide +kernel
theorem dX11_feedDeck_67 : decode cX11_feedDeck 67 = .ok (.if_icmp .ne 10, 3) := by decide +kernel
theorem dX11_feedDeck_70 : decode cX11_feedDeck 70 = .ok (.iconst 1, 1) := by decide +kernel
theorem dX11_feedDeck_71 : decode cX11_feedDeck 71 = .ok (.istore 6, 2) := by decide +kernel
theorem dX11_feedDeck_73 : decode cX11_feedDeck 73 = .ok (.bipush 6, 2) := by decide +kernel
theorem dX11_feedDeck_75 : decode cX11_feedDeck 75 = .ok (.istore 8, 2) := by decide +kernel
theorem dX11_feedDeck_77 : decode cX11_feedDeck 77 = .ok (.iload 8, 2) := by decide +kernel
theorem dX11_feedDeck_79 : decode cX11_feedDeck 79 = .ok (.ifCond .ne 15, 3) := by decide +kernel
theorem dX11_feedDeck_82 : decode cX11_feedDeck 82 = .ok (.iinc 3 1, 3) := by decide +kernel
theorem dX11_feedDeck_85 : decode cX11_feedDeck 85 = .ok (.aload_n 0, 1) := by decide +kernel
theorem dX11_feedDeck_86 : decode cX11_feedDeck 86 = .ok (.getfield 65, 3) := by decide +kernel
theorem dX11_feedDeck_89 : decode cX11_feedDeck 89 = .ok (.invokevirtual 314, 3) := by decide +kernel
theorem dX11_feedDeck_92 : decode cX11_feedDeck 92 = .ok (.lstore 4, 2) := by decide +kernel
theorem dX11_feedDeck_94 : decode cX11_feedDeck 94 = .ok (.iload_n 2, 1) := by decide +kernel
theorem dX11_feedDeck_95 : decode cX11_feedDeck 95 = .ok (.ifCond .eq 11, 3) := by decide +kernel
theorem dX11_feedDeck_98 : decode cX11_feedDeck 98 = .ok (.aload_n 0, 1) := by decide +kernel
theorem dX11_feedDeck_99 : decode cX11_feedDeck 99 = .ok (.iload 7, 2) := by decide +kernel
theorem dX11_feedDeck_101 : decode cX11_feedDeck 101 = .ok (.iload 8, 2) := by decide +kernel
theorem dX11_feedDeck_103 : decode cX11_feedDeck 103 = .ok (.invokevirtual 318, 3) := by decide +kernel
theorem dX11_feedDeck_106 : decode cX11_feedDeck 106 = .ok (.iinc 7 1, 3) := by decide +kernel
theorem dX11_feedDeck_109 : decode cX11_feedDeck 109 = .ok (.goto (-96), 3) := by decide +kernel
theorem dX11_feedDeck_112 : decode cX11_feedDeck 112 = .ok (.iload_n 3, 1) := by decide +kernel
theorem dX11_feedDeck_113 : decode cX11_feedDeck 113 = .ok (.ireturn, 1) := by decide +kernel
theorem dX11_printJudged_0 : decode cX11_printJudged 0 = .ok (.aload_n 0, 1) := by decide +kernel
theorem dX11_printJudged_1 : decode cX11_printJudged 1 = .ok (.getfield 12, 3) := by decide +kernel
theorem dX11_printJudged_4 : decode cX11_printJudged 4 = .ok (.getfield 198, 3) := by decide +kernel
theorem dX11_printJudged_7 : decode cX11_printJudged 7 = .ok (.iload_n 1, 1) := by decide +kernel
theorem dX11_printJudged_8 : decode cX11_printJudged 8 = .ok (.iload_n 2, 1) := by decide +kernel
theorem dX11_printJudged_9 : decode cX11_printJudged 9 = .ok (.invokevirtual 321, 3) := by decide +kernel
theorem dX11_printJudged_12 : decode cX11_printJudged 12 = .ok (.iload_n 2, 1) := by decide +kernel
theorem dX11_printJudged_13 : decode cX11_printJudged 13 = .ok (.ifCond .ne 22, 3) := by decide +kernel
theorem dX11_printJudged_16 : decode cX11_printJudged 16 = .ok (.aload_n 0, 1) := by decide +kernel
theorem dX11_printJudged_17 : decode cX11_printJudged 17 = .ok (.getfield 44, 3) := by decide +kernel
theorem dX11_printJudged_20 : decode cX11_printJudged 20 = .ok (.aload_n 0, 1) := by decide +kernel
theorem dX11_printJudged_21 : decode cX11_printJudged 21 = .ok (.getfield 12, 3) := by decide +kernel
theorem dX11_printJudged_24 : decode cX11_printJudged 24 = .ok (.getfield 198, 3) := by decide +kernel
theorem dX11_printJudged_27 : decode cX11_printJudged 27 = .ok (.aload_n 0, 1) := by decide +kernel
theorem dX11_printJudged_28 : decode cX11_printJudged 28 = .ok (.getfield 65, 3) := by decide +kernel
theorem dX11_printJudged_31 : decode cX11_printJudged 31 = .ok (.iload_n 1, 1) := by decide +kernel
theorem dX11_printJudged_32 : decode cX11_printJudged 32 = .ok (.invokevirtual 324, 3) := by decide +kernel
theorem dX11_printJudged_35 : decode cX11_printJudged 35 = .ok (.return_, 1) := by decide +kernel
theorem dX11_refusal_0 : decode cX11_refusal 0 = .ok (.aload_n 0, 1) := by decide +kernel
theorem dX11_refusal_1 : decode cX11_refusal 1 = .ok (.aload_n 1, 1) := by decide +kernel
theorem dX11_refusal_2 : decode cX11_refusal 2 = .ok (.invokevirtual 254, 3) := by decide +kernel
theorem dX11_refusal_5 : decode cX11_refusal 5 = .ok (.istore 5, 2) := by decide +kernel
theorem dX11_refusal_7 : decode cX11_refusal 7 = .ok (.iload 5, 2) := by decide +kernel
theorem dX11_refusal_9 : decode cX11_refusal 9 = .ok (.ifCond .ne 21, 3) := by decide +kernel
theorem dX11_refusal_12 : decode cX11_refusal 12 = .ok (.iload_n 2, 1) := by decide +kernel
theorem dX11_refusal_13 : decode cX11_refusal 13 = .ok (.ifCond .eq 17, 3) := by decide +kernel
theorem dX11_refusal_16 : decode cX11_refusal 16 = .ok (.aload_n 0, 1) := by decide +kernel
theorem dX11_refusal_17 : decode cX11_refusal 17 = .ok (.getfield 65, 3) := by decide +kernel
theorem dX11_refusal_20 : decode cX11_refusal 20 = .ok (.invokevirtual 314, 3) := by decide +kernel
theorem dX11_refusal_23 : decode cX11_refusal 23 = .ok (.lload_n 3, 1) := by decide +kernel
theorem dX11_refusal_24 : decode cX11_refusal 24 = .ok (.lcmp, 1) := by decide +kernel
theorem dX11_refusal_25 : decode cX11_refusal 25 = .ok (.ifCond .ge 5, 3) := by decide +kernel
theorem dX11_refusal_28 : decode cX11_refusal 28 = .ok (.iconst 5, 1) := by decide +kernel
theorem dX11_refusal_29 : decode cX11_refusal 29 = .ok (.ireturn, 1) := by decide +kernel
theorem dX11_refusal_30 : decode cX11_refusal 30 = .ok (.iload 5, 2) := by decide +kernel
theorem dX11_refusal_32 : decode cX11_refusal 32 = .ok (.ireturn, 1) := by decide +kernel
theorem dX11_faultOfCard_0 : decode cX11_faultOfCard 0 = .ok (.aload_n 1, 1) := by decide +kernel
theorem dX11_faultOfCard_1 : decode cX11_faultOfCard 1 = .ok (.getfield 176, 3) := by decide +kernel
theorem dX11_faultOfCard_4 : decode cX11_faultOfCard 4 = .ok (.iconst 1, 1) := by decide +kernel
theorem dX11_faultOfCard_5 : decode cX11_faultOfCard 5 = .ok (.if_icmp .ne 5, 3) := by decide +kernel
theorem dX11_faultOfCard_8 : decode cX11_faultOfCard 8 = .ok (.iconst 1, 1) := by decide +kernel
theorem dX11_faultOfCard_9 : decode cX11_faultOfCard 9 = .ok (.ireturn, 1) := by decide +kernel
theorem dX11_faultOfCard_10 : decode cX11_faultOfCard 10 = .ok (.aload_n 0, 1) := by decide +kernel
theorem dX11_faultOfCard_11 : decode cX11_faultOfCard 11 = .ok (.getfield 58, 3) := by decide +kernel
theorem dX11_faultOfCard_14 : decode cX11_faultOfCard 14 = .ok (.aload_n 1, 1) := by decide +kernel
theorem dX11_faultOfCard_15 : decode cX11_faultOfCard 15 = .ok (.invokevirtual 328, 3) := by decide +kernel
theorem dX11_faultOfCard_18 : decode cX11_faultOfCard 18 = .ok (.aload_n 0, 1) := by decide +kernel
theorem dX11_faultOfCard_19 : decode cX11_faultOfCard 19 = .ok (.getfield 65, 3) := by decide +kernel
theorem dX11_faultOfCard_22 : decode cX11_faultOfCard 22 = .ok (.aload_n 0, 1) := by decide +kernel
theorem dX11_faultOfCard_23 : decode cX11_faultOfCard 23 = .ok (.getfield 58, 3) := by decide +kernel
theorem dX11_faultOfCard_26 : decode cX11_faultOfCard 26 = .ok (.aload_n 0, 1) := by decide +kernel
theorem dX11_faultOfCard_27 : decode cX11_faultOfCard 27 = .ok (.getfield 12, 3) := by decide +kernel
theorem dX11_faultOfCard_30 : decode cX11_faultOfCard 30 = .ok (.getfield 82, 3) := by decide +kernel
theorem dX11_faultOfCard_33 : decode cX11_faultOfCard 33 = .ok (.invokevirtual 332, 3) := by decide +kernel
theorem dX11_faultOfCard_36 : decode cX11_faultOfCard 36 = .ok (.ifCond .ne 5, 3) := by decide +kernel
theorem dX11_faultOfCard_39 : decode cX11_faultOfCard 39 = .ok (.iconst 2, 1) := by decide +kernel
theorem dX11_faultOfCard_40 : decode cX11_faultOfCard 40 = .ok (.ireturn, 1) := by decide +kernel
theorem dX11_faultOfCard_41 : decode cX11_faultOfCard 41 = .ok (.aload_n 0, 1) := by decide +kernel
theorem dX11_faultOfCard_42 : decode cX11_faultOfCard 42 = .ok (.getfield 12, 3) := by decide +kernel
theorem dX11_faultOfCard_45 : decode cX11_faultOfCard 45 = .ok (.iconst 1, 1) := by decide +kernel
theorem dX11_faultOfCard_46 : decode cX11_faultOfCard 46 = .ok (.invokevirtual 106, 3) := by decide +kernel
theorem dX11_faultOfCard_49 : decode cX11_faultOfCard 49 = .ok (.iconst 1, 1) := by decide +kernel
theorem dX11_faultOfCard_50 : decode cX11_faultOfCard 50 = .ok (.if_icmp .ne 37, 3) := by decide +kernel
theorem dX11_faultOfCard_53 : decode cX11_faultOfCard 53 = .ok (.aload_n 0, 1) := by decide +kernel
theorem dX11_faultOfCard_54 : decode cX11_faultOfCard 54 = .ok (.getfield 12, 3) := by decide +kernel
theorem dX11_faultOfCard_57 : decode cX11_faultOfCard 57 = .ok (.getfield 82, 3) := by decide +kernel
theorem dX11_faultOfCard_60 : decode cX11_faultOfCard 60 = .ok (.aload_n 0, 1) := by decide +kernel
theorem dX11_faultOfCard_61 : decode cX11_faultOfCard 61 = .ok (.getfield 58, 3) := by decide +kernel
theorem dX11_faultOfCard_64 : decode cX11_faultOfCard 64 = .ok (.iconst 5, 1) := by decide +kernel
theorem dX11_faultOfCard_65 : decode cX11_faultOfCard 65 = .ok (.invokevirtual 250, 3) := by decide +kernel
theorem dX11_faultOfCard_68 : decode cX11_faultOfCard 68 = .ok (.aload_n 0, 1) := by decide +kernel
theorem dX11_faultOfCard_69 : decode cX11_faultOfCard 69 = .ok (.getfield 12, 3) := by decide +kernel
theorem dX11_faultOfCard_72 : decode cX11_faultOfCard 72 = .ok (.getfield 82, 3) := by decide +kernel
theorem dX11_faultOfCard_75 : decode cX11_faultOfCard 75 = .ok (.aload_n 0, 1) := by decide +kernel
theorem dX11_faultOfCard_76 : decode cX11_faultOfCard 76 = .ok (.getfield 58, 3) := by decide +kernel
theorem dX11_faultOfCard_79 : decode cX11_faultOfCard 79 = .ok (.invokevirtual 144, 3) := by decide +kernel
theorem dX11_faultOfCard_82 : decode cX11_faultOfCard 82 = .ok (.if_icmp .eq 5, 3) := by decide +kernel
theorem dX11_faultOfCard_85 : decode cX11_faultOfCard 85 = .ok (.iconst 3, 1) := by decide +kernel
theorem dX11_faultOfCard_86 : decode cX11_faultOfCard 86 = .ok (.ireturn, 1) := by decide +kernel
theorem dX11_faultOfCard_87 : decode cX11_faultOfCard 87 = .ok (.aload_n 0, 1) := by decide +kernel
theorem dX11_faultOfCard_88 : decode cX11_faultOfCard 88 = .ok (.getfield 65, 3) := by decide +kernel
theorem dX11_faultOfCard_91 : decode cX11_faultOfCard 91 = .ok (.getfield 336, 3) := by decide +kernel
theorem dX11_faultOfCard_94 : decode cX11_faultOfCard 94 = .ok (.aload_n 0, 1) := by decide +kernel
theorem dX11_faultOfCard_95 : decode cX11_faultOfCard 95 = .ok (.getfield 12, 3) := by decide +kernel
theorem dX11_faultOfCard_98 : decode cX11_faultOfCard 98 = .ok (.iconst 2, 1) := by decide +kernel
theorem dX11_faultOfCard_99 : decode cX11_faultOfCard 99 = .ok (.invokevirtual 106, 3) := by decide +kernel
theorem dX11_faultOfCard_102 : decode cX11_faultOfCard 102 = .ok (.if_icmp .le 7, 3) := by decide +kernel
theorem dX11_faultOfCard_105 : decode cX11_faultOfCard 105 = .ok (.iconst 4, 1) := by decide +kernel
theorem dX11_faultOfCard_106 : decode cX11_faultOfCard 106 = .ok (.goto 4, 3) := by decide +kernel
theorem dX11_faultOfCard_109 : decode cX11_faultOfCard 109 = .ok (.iconst 0, 1) := by decide +kernel
theorem dX11_faultOfCard_110 : decode cX11_faultOfCard 110 = .ok (.ireturn, 1) := by decide +kernel
theorem dX11_acceptedTotal_0 : decode cX11_acceptedTotal 0 = .ok (.iload_n 1, 1) := by decide +kernel
theorem dX11_acceptedTotal_1 : decode cX11_acceptedTotal 1 = .ok (.lookupswitch 51 #[(0, 27), (1, 39)], 27) := by decide +kernel
theorem dX11_acceptedTotal_28 : decode cX11_acceptedTotal 28 = .ok (.aload_n 0, 1) := by decide +kernel
theorem dX11_acceptedTotal_29 : decode cX11_acceptedTotal 29 = .ok (.getfield 12, 3) := by decide +kernel
theorem dX11_acceptedTotal_32 : decode cX11_acceptedTotal 32 = .ok (.getfield 198, 3) := by decide +kernel
theorem dX11_acceptedTotal_35 : decode cX11_acceptedTotal 35 = .ok (.iconst 4, 1) := by decide +kernel
theorem dX11_acceptedTotal_36 : decode cX11_acceptedTotal 36 = .ok (.invokevirtual 241, 3) := by decide +kernel
theorem dX11_acceptedTotal_39 : decode cX11_acceptedTotal 39 = .ok (.ireturn, 1) := by decide +kernel
theorem dX11_acceptedTotal_40 : decode cX11_acceptedTotal 40 = .ok (.aload_n 0, 1) := by decide +kernel
theorem dX11_acceptedTotal_41 : decode cX11_acceptedTotal 41 = .ok (.getfield 12, 3) := by decide +kernel
theorem dX11_acceptedTotal_44 : decode cX11_acceptedTotal 44 = .ok (.getfield 198, 3) := by decide +kernel
theorem dX11_acceptedTotal_47 : decode cX11_acceptedTotal 47 = .ok (.iconst 5, 1) := by decide +kernel
theorem dX11_acceptedTotal_48 : decode cX11_acceptedTotal 48 = .ok (.invokevirtual 241, 3) := by decide +kernel
theorem dX11_acceptedTotal_51 : decode cX11_acceptedTotal 51 = .ok (.ireturn, 1) := by decide +kernel
theorem dX11_acceptedTotal_52 : decode cX11_acceptedTotal 52 = .ok (.aload_n 0, 1) := by decide +kernel
theorem dX11_acceptedTotal_53 : decode cX11_acceptedTotal 53 = .ok (.getfield 12, 3) := by decide +kernel
theorem dX11_acceptedTotal_56 : decode cX11_acceptedTotal 56 = .ok (.getfield 198, 3) := by decide +kernel
theorem dX11_acceptedTotal_59 : decode cX11_acceptedTotal 59 = .ok (.invokevirtual 339, 3) := by decide +kernel
theorem dX11_acceptedTotal_62 : decode cX11_acceptedTotal 62 = .ok (.ireturn, 1) := by decide +kernel
theorem dX11_isDeckInOrder_0 : decode cX11_isDeckInOrder 0 = .ok (.aload_n 0, 1) := by decide +kernel
theorem dX11_isDeckInOrder_1 : decode cX11_isDeckInOrder 1 = .ok (.getfield 37, 3) := by decide +kernel
theorem dX11_isDeckInOrder_4 : decode cX11_isDeckInOrder 4 = .ok (.aload_n 0, 1) := by decide +kernel
theorem dX11_isDeckInOrder_5 : decode cX11_isDeckInOrder 5 = .ok (.getfield 12, 3) := by decide +kernel
theorem dX11_isDeckInOrder_8 : decode cX11_isDeckInOrder 8 = .ok (.getfield 120, 3) := by decide +kernel
theorem dX11_isDeckInOrder_11 : decode cX11_isDeckInOrder 11 = .ok (.invokevirtual 183, 3) := by decide +kernel
theorem dX11_isDeckInOrder_14 : decode cX11_isDeckInOrder 14 = .ok (.aload_n 0, 1) := by decide +kernel
theorem dX11_isDeckInOrder_15 : decode cX11_isDeckInOrder 15 = .ok (.getfield 37, 3) := by decide +kernel
theorem dX11_isDeckInOrder_18 : decode cX11_isDeckInOrder 18 = .ok (.aload_n 0, 1) := by decide +kernel
theorem dX11_isDeckInOrder_19 : decode cX11_isDeckInOrder 19 = .ok (.getfield 12, 3) := by decide +kernel
theorem dX11_isDeckInOrder_22 : decode cX11_isDeckInOrder 22 = .ok (.getfield 120, 3) := by decide +kernel
theorem dX11_isDeckInOrder_25 : decode cX11_isDeckInOrder 25 = .ok (.aload_n 0, 1) := by decide +kernel
theorem dX11_isDeckInOrder_26 : decode cX11_isDeckInOrder 26 = .ok (.getfield 12, 3) := by decide +kernel
theorem dX11_isDeckInOrder_29 : decode cX11_isDeckInOrder 29 = .ok (.getfield 82, 3) := by decide +kernel
theorem dX11_isDeckInOrder_32 : decode cX11_isDeckInOrder 32 = .ok (.invokevirtual 301, 3) := by decide +kernel
theorem dX11_isDeckInOrder_35 : decode cX11_isDeckInOrder 35 = .ok (.ireturn, 1) := by decide +kernel
theorem dX11_passByKeyColumns_0 : decode cX11_passByKeyColumns 0 = .ok (.iconst 0, 1) := by decide +kernel
theorem dX11_passByKeyColumns_1 : decode cX11_passByKeyColumns 1 = .ok (.istore_n 2, 1) := by decide +kernel
theorem dX11_passByKeyColumns_2 : decode cX11_passByKeyColumns 2 = .ok (.iconst 2, 1) := by decide +kernel
theorem dX11_passByKeyColumns_3 : decode cX11_passByKeyColumns 3 = .ok (.istore_n 3, 1) := by decide +kernel
theorem dX11_passByKeyColumns_4 : decode cX11_passByKeyColumns 4 = .ok (.iload_n 3, 1) := by decide +kernel
theorem dX11_passByKeyColumns_5 : decode cX11_passByKeyColumns 5 = .ok (.ifCond .lt 71, 3) := by decide +kernel
theorem dX11_passByKeyColumns_8 : decode cX11_passByKeyColumns 8 = .ok (.aload_n 0, 1) := by decide +kernel
theorem dX11_passByKeyColumns_9 : decode cX11_passByKeyColumns 9 = .ok (.getfield 12, 3) := by decide +kernel
theorem dX11_passByKeyColumns_12 : decode cX11_passByKeyColumns 12 = .ok (.getfield 82, 3) := by decide +kernel
theorem dX11_passByKeyColumns_15 : decode cX11_passByKeyColumns 15 = .ok (.iload_n 3, 1) := by decide +kernel
theorem dX11_passByKeyColumns_16 : decode cX11_passByKeyColumns 16 = .ok (.invokevirtual 195, 3) := by decide +kernel
theorem dX11_passByKeyColumns_19 : decode cX11_passByKeyColumns 19 = .ok (.iconst 1, 1) := by decide +kernel
theorem dX11_passByKeyColumns_20 : decode cX11_passByKeyColumns 20 = .ok (.isub, 1) := by decide +kernel
theorem dX11_passByKeyColumns_21 : decode cX11_passByKeyColumns 21 = .ok (.istore 4, 2) := by decide +kernel
theorem dX11_passByKeyColumns_23 : decode cX11_passByKeyColumns 23 = .ok (.iload 4, 2) := by decide +kernel
theorem dX11_passByKeyColumns_25 : decode cX11_passByKeyColumns 25 = .ok (.ifCond .lt 45, 3) := by decide +kernel
theorem dX11_passByKeyColumns_28 : decode cX11_passByKeyColumns 28 = .ok (.iload_n 2, 1) := by decide +kernel
theorem dX11_passByKeyColumns_29 : decode cX11_passByKeyColumns 29 = .ok (.iload_n 1, 1) := by decide +kernel
theorem dX11_passByKeyColumns_30 : decode cX11_passByKeyColumns 30 = .ok (.if_icmp .lt 31, 3) := by decide +kernel
theorem dX11_passByKeyColumns_33 : decode cX11_passByKeyColumns 33 = .ok (.aload_n 0, 1) := by decide +kernel
theorem dX11_passByKeyColumns_34 : decode cX11_passByKeyColumns 34 = .ok (.getfield 37, 3) := by decide +kernel
theorem dX11_passByKeyColumns_37 : decode cX11_passByKeyColumns 37 = .ok (.aload_n 0, 1) := by decide +kernel
theorem dX11_passByKeyColumns_38 : decode cX11_passByKeyColumns 38 = .ok (.getfield 12, 3) := by decide +kernel
theorem dX11_passByKeyColumns_41 : decode cX11_passByKeyColumns 41 = .ok (.getfield 120, 3) := by decide +kernel
theorem dX11_passByKeyColumns_44 : decode cX11_passByKeyColumns 44 = .ok (.aload_n 0, 1) := by decide +kernel
theorem dX11_passByKeyColumns_45 : decode cX11_passByKeyColumns 45 = .ok (.getfield 12, 3) := by decide +kernel
theorem dX11_passByKeyColumns_48 : decode cX11_passByKeyColumns 48 = .ok (.getfield 82, 3) := by decide +kernel
theorem dX11_passByKeyColumns_51 : decode cX11_passByKeyColumns 51 = .ok (.iload_n 3, 1) := by decide +kernel
theorem dX11_passByKeyColumns_52 : decode cX11_passByKeyColumns 52 = .ok (.invokevirtual 86, 3) := by decide +kernel
theorem dX11_passByKeyColumns_55 : decode cX11_passByKeyColumns 55 = .ok (.iload 4, 2) := by decide +kernel
theorem dX11_passByKeyColumns_57 : decode cX11_passByKeyColumns 57 = .ok (.iadd, 1) := by decide +kernel
theorem dX11_passByKeyColumns_58 : decode cX11_passByKeyColumns 58 = .ok (.invokevirtual 187, 3) := by decide +kernel
theorem dX11_passByKeyColumns_61 : decode cX11_passByKeyColumns 61 = .ok (.iinc 2 1, 3) := by decide +kernel
theorem dX11_passByKeyColumns_64 : decode cX11_passByKeyColumns 64 = .ok (.iinc 4 (-1), 3) := by decide +kernel
theorem dX11_passByKeyColumns_67 : decode cX11_passByKeyColumns 67 = .ok (.goto (-44), 3) := by decide +kernel
theorem dX11_passByKeyColumns_70 : decode cX11_passByKeyColumns 70 = .ok (.iinc 3 (-1), 3) := by decide +kernel
theorem dX11_passByKeyColumns_73 : decode cX11_passByKeyColumns 73 = .ok (.goto (-69), 3) := by decide +kernel
theorem dX11_passByKeyColumns_76 : decode cX11_passByKeyColumns 76 = .ok (.return_, 1) := by decide +kernel
theorem dX11_isWithin_0 : decode cX11_isWithin 0 = .ok (.iload_n 0, 1) := by decide +kernel
theorem dX11_isWithin_1 : decode cX11_isWithin 1 = .ok (.iload_n 1, 1) := by decide +kernel
theorem dX11_isWithin_2 : decode cX11_isWithin 2 = .ok (.if_icmp .lt 12, 3) := by decide +kernel
theorem dX11_isWithin_5 : decode cX11_isWithin 5 = .ok (.iload_n 0, 1) := by decide +kernel
theorem dX11_isWithin_6 : decode cX11_isWithin 6 = .ok (.iload_n 2, 1) := by decide +kernel
theorem dX11_isWithin_7 : decode cX11_isWithin 7 = .ok (.if_icmp .gt 7, 3) := by decide +kernel
theorem dX11_isWithin_10 : decode cX11_isWithin 10 = .ok (.iconst 1, 1) := by decide +kernel
theorem dX11_isWithin_11 : decode cX11_isWithin 11 = .ok (.goto 4, 3) := by decide +kernel
theorem dX11_isWithin_14 : decode cX11_isWithin 14 = .ok (.iconst 0, 1) := by decide +kernel
theorem dX11_isWithin_15 : decode cX11_isWithin 15 = .ok (.ireturn, 1) := by decide +kernel
theorem dX11_isField_0 : decode cX11_isField 0 = .ok (.iload_n 0, 1) := by decide +kernel
theorem dX11_isField_1 : decode cX11_isField 1 = .ok (.ifCond .lt 13, 3) := by decide +kernel
theorem dX11_isField_4 : decode cX11_isField 4 = .ok (.iload_n 0, 1) := by decide +kernel
theorem dX11_isField_5 : decode cX11_isField 5 = .ok (.bipush 6, 2) := by decide +kernel
theorem dX11_isField_7 : decode cX11_isField 7 = .ok (.if_icmp .ge 7, 3) := by decide +kernel
theorem dX11_isField_10 : decode cX11_isField 10 = .ok (.iconst 1, 1) := by decide +kernel
theorem dX11_isField_11 : decode cX11_isField 11 = .ok (.goto 4, 3) := by decide +kernel
theorem dX11_isField_14 : decode cX11_isField 14 = .ok (.iconst 0, 1) := by decide +kernel
theorem dX11_isField_15 : decode cX11_isField 15 = .ok (.ireturn, 1) := by decide +kernel
theorem dX11_isColumn_0 : decode cX11_isColumn 0 = .ok (.iload_n 0, 1) := by decide +kernel
theorem dX11_isColumn_1 : decode cX11_isColumn 1 = .ok (.ifCond .lt 13, 3) := by decide +kernel
theorem dX11_isColumn_4 : decode cX11_isColumn 4 = .ok (.iload_n 0, 1) := by decide +kernel
theorem dX11_isColumn_5 : decode cX11_isColumn 5 = .ok (.bipush 24, 2) := by decide +kernel
theorem dX11_isColumn_7 : decode cX11_isColumn 7 = .ok (.if_icmp .ge 7, 3) := by decide +kernel
theorem dX11_isColumn_10 : decode cX11_isColumn 10 = .ok (.iconst 1, 1) := by decide +kernel
theorem dX11_isColumn_11 : decode cX11_isColumn 11 = .ok (.goto 4, 3) := by decide +kernel
theorem dX11_isColumn_14 : decode cX11_isColumn 14 = .ok (.iconst 0, 1) := by decide +kernel
theorem dX11_isColumn_15 : decode cX11_isColumn 15 = .ok (.ireturn, 1) := by decide +kernel
theorem dX11_isSetting_0 : decode cX11_isSetting 0 = .ok (.iload_n 0, 1) := by decide +kernel
theorem dX11_isSetting_1 : decode cX11_isSetting 1 = .ok (.ifCond .lt 15, 3) := by decide +kernel
theorem dX11_isSetting_4 : decode cX11_isSetting 4 = .ok (.iload_n 0, 1) := by decide +kernel
theorem dX11_isSetting_5 : decode cX11_isSetting 5 = .ok (.getstatic 99, 3) := by decide +kernel
theorem dX11_isSetting_8 : decode cX11_isSetting 8 = .ok (.arraylength, 1) := by decide +kernel
theorem dX11_isSetting_9 : decode cX11_isSetting 9 = .ok (.if_icmp .ge 7, 3) := by decide +kernel
theorem dX11_isSetting_12 : decode cX11_isSetting 12 = .ok (.iconst 1, 1) := by decide +kernel
theorem dX11_isSetting_13 : decode cX11_isSetting 13 = .ok (.goto 4, 3) := by decide +kernel
theorem dX11_isSetting_16 : decode cX11_isSetting 16 = .ok (.iconst 0, 1) := by decide +kernel
theorem dX11_isSetting_17 : decode cX11_isSetting 17 = .ok (.ireturn, 1) := by decide +kernel
theorem dX11_isControl_0 : decode cX11_isControl 0 = .ok (.iload_n 0, 1) := by decide +kernel
theorem dX11_isControl_1 : decode cX11_isControl 1 = .ok (.ifCond .lt 12, 3) := by decide +kernel
theorem dX11_isControl_4 : decode cX11_isControl 4 = .ok (.iload_n 0, 1) := by decide +kernel
theorem dX11_isControl_5 : decode cX11_isControl 5 = .ok (.iconst 3, 1) := by decide +kernel
theorem dX11_isControl_6 : decode cX11_isControl 6 = .ok (.if_icmp .ge 7, 3) := by decide +kernel
theorem dX11_isControl_9 : decode cX11_isControl 9 = .ok (.iconst 1, 1) := by decide +kernel
theorem dX11_isControl_10 : decode cX11_isControl 10 = .ok (.goto 4, 3) := by decide +kernel
theorem dX11_isControl_13 : decode cX11_isControl 13 = .ok (.iconst 0, 1) := by decide +kernel
theorem dX11_isControl_14 : decode cX11_isControl 14 = .ok (.ireturn, 1) := by decide +kernel
theorem dX11_fits_0 : decode cX11_fits 0 = .ok (.iload_n 0, 1) := by decide +kernel
theorem dX11_fits_1 : decode cX11_fits 1 = .ok (.iconst 5, 1) := by decide +kernel
theorem dX11_fits_2 : decode cX11_fits 2 = .ok (.if_icmp .ne 7, 3) := by decide +kernel
theorem dX11_fits_5 : decode cX11_fits 5 = .ok (.iconst 1, 1) := by decide +kernel
theorem dX11_fits_6 : decode cX11_fits 6 = .ok (.goto 4, 3) := by decide +kernel
theorem dX11_fits_9 : decode cX11_fits 9 = .ok (.iconst 4, 1) := by decide +kernel
theorem dX11_fits_10 : decode cX11_fits 10 = .ok (.istore_n 3, 1) := by decide +kernel
theorem dX11_fits_11 : decode cX11_fits 11 = .ok (.iload_n 2, 1) := by decide +kernel
end
section
theorem dX11_fits_12 : decode cX11_fits 12 = .ok (.iconst 1, 1) := by decide +kernel
theorem dX11_fits_13 : decode cX11_fits 13 = .ok (.iload_n 3, 1) := by decide +kernel
theorem dX11_fits_14 : decode cX11_fits 14 = .ok (.invokestatic 103, 3) := by decide +kernel
theorem dX11_fits_17 : decode cX11_fits 17 = .ok (.ifCond .eq 22, 3) := by decide +kernel
theorem dX11_fits_20 : decode cX11_fits 20 = .ok (.iload_n 1, 1) := by decide +kernel
theorem dX11_fits_21 : decode cX11_fits 21 = .ok (.invokestatic 167, 3) := by decide +kernel
theorem dX11_fits_24 : decode cX11_fits 24 = .ok (.ifCond .eq 15, 3) := by decide +kernel
theorem dX11_fits_27 : decode cX11_fits 27 = .ok (.iload_n 1, 1) := by decide +kernel
theorem dX11_fits_28 : decode cX11_fits 28 = .ok (.iload_n 2, 1) := by decide +kernel
theorem dX11_fits_29 : decode cX11_fits 29 = .ok (.iadd, 1) := by decide +kernel
theorem dX11_fits_30 : decode cX11_fits 30 = .ok (.bipush 24, 2) := by decide +kernel
theorem dX11_fits_32 : decode cX11_fits 32 = .ok (.if_icmp .gt 7, 3) := by decide +kernel
theorem dX11_fits_35 : decode cX11_fits 35 = .ok (.iconst 1, 1) := by decide +kernel
theorem dX11_fits_36 : decode cX11_fits 36 = .ok (.goto 4, 3) := by decide +kernel
theorem dX11_fits_39 : decode cX11_fits 39 = .ok (.iconst 0, 1) := by decide +kernel
theorem dX11_fits_40 : decode cX11_fits 40 = .ok (.ireturn, 1) := by decide +kernel
theorem dJ9_floorMod_7cf53_0 : decode cJ9_floorMod_7cf53 0 = .ok (.iload_n 0, 1) := by decide +kernel
theorem dJ9_floorMod_7cf53_1 : decode cJ9_floorMod_7cf53 1 = .ok (.iload_n 1, 1) := by decide +kernel
theorem dJ9_floorMod_7cf53_2 : decode cJ9_floorMod_7cf53 2 = .ok (.irem, 1) := by decide +kernel
theorem dJ9_floorMod_7cf53_3 : decode cJ9_floorMod_7cf53 3 = .ok (.istore_n 2, 1) := by decide +kernel
theorem dJ9_floorMod_7cf53_4 : decode cJ9_floorMod_7cf53 4 = .ok (.iload_n 0, 1) := by decide +kernel
theorem dJ9_floorMod_7cf53_5 : decode cJ9_floorMod_7cf53 5 = .ok (.iload_n 1, 1) := by decide +kernel
theorem dJ9_floorMod_7cf53_6 : decode cJ9_floorMod_7cf53 6 = .ok (.ixor, 1) := by decide +kernel
theorem dJ9_floorMod_7cf53_7 : decode cJ9_floorMod_7cf53 7 = .ok (.ifCond .ge 11, 3) := by decide +kernel
theorem dJ9_floorMod_7cf53_10 : decode cJ9_floorMod_7cf53 10 = .ok (.iload_n 2, 1) := by decide +kernel
theorem dJ9_floorMod_7cf53_11 : decode cJ9_floorMod_7cf53 11 = .ok (.ifCond .eq 7, 3) := by decide +kernel
theorem dJ9_floorMod_7cf53_14 : decode cJ9_floorMod_7cf53 14 = .ok (.iload_n 2, 1) := by decide +kernel
theorem dJ9_floorMod_7cf53_15 : decode cJ9_floorMod_7cf53 15 = .ok (.iload_n 1, 1) := by decide +kernel
theorem dJ9_floorMod_7cf53_16 : decode cJ9_floorMod_7cf53 16 = .ok (.iadd, 1) := by decide +kernel
theorem dJ9_floorMod_7cf53_17 : decode cJ9_floorMod_7cf53 17 = .ok (.ireturn, 1) := by decide +kernel
theorem dJ9_floorMod_7cf53_18 : decode cJ9_floorMod_7cf53 18 = .ok (.iload_n 2, 1) := by decide +kernel
theorem dJ9_floorMod_7cf53_19 : decode cJ9_floorMod_7cf53 19 = .ok (.ireturn, 1) := by decide +kernel
theorem dJ9_abs_0f7a4_0 : decode cJ9_abs_0f7a4 0 = .ok (.iload_n 0, 1) := by decide +kernel
theorem dJ9_abs_0f7a4_1 : decode cJ9_abs_0f7a4 1 = .ok (.ifCond .ge 8, 3) := by decide +kernel
theorem dJ9_abs_0f7a4_4 : decode cJ9_abs_0f7a4 4 = .ok (.iload_n 0, 1) := by decide +kernel
theorem dJ9_abs_0f7a4_5 : decode cJ9_abs_0f7a4 5 = .ok (.ineg, 1) := by decide +kernel
theorem dJ9_abs_0f7a4_6 : decode cJ9_abs_0f7a4 6 = .ok (.goto 4, 3) := by decide +kernel
theorem dJ9_abs_0f7a4_9 : decode cJ9_abs_0f7a4 9 = .ok (.iload_n 0, 1) := by decide +kernel
theorem dJ9_abs_0f7a4_10 : decode cJ9_abs_0f7a4 10 = .ok (.ireturn, 1) := by decide +kernel
theorem dJ9_min_7cf53_0 : decode cJ9_min_7cf53 0 = .ok (.iload_n 0, 1) := by decide +kernel
theorem dJ9_min_7cf53_1 : decode cJ9_min_7cf53 1 = .ok (.iload_n 1, 1) := by decide +kernel
theorem dJ9_min_7cf53_2 : decode cJ9_min_7cf53 2 = .ok (.if_icmp .gt 7, 3) := by decide +kernel
theorem dJ9_min_7cf53_5 : decode cJ9_min_7cf53 5 = .ok (.iload_n 0, 1) := by decide +kernel
theorem dJ9_min_7cf53_6 : decode cJ9_min_7cf53 6 = .ok (.goto 4, 3) := by decide +kernel
theorem dJ9_min_7cf53_9 : decode cJ9_min_7cf53 9 = .ok (.iload_n 1, 1) := by decide +kernel
theorem dJ9_min_7cf53_10 : decode cJ9_min_7cf53 10 = .ok (.ireturn, 1) := by decide +kernel
theorem dL_cell_0 : decode cL_cell 0 = .ok (.iload_n 1, 1) := by decide +kernel
theorem dL_cell_1 : decode cL_cell 1 = .ok (.aload_n 0, 1) := by decide +kernel
theorem dL_cell_2 : decode cL_cell 2 = .ok (.arraylength, 1) := by decide +kernel
theorem dL_cell_3 : decode cL_cell 3 = .ok (.if_icmp .ge 9, 3) := by decide +kernel
theorem dL_cell_6 : decode cL_cell 6 = .ok (.aload_n 0, 1) := by decide +kernel
theorem dL_cell_7 : decode cL_cell 7 = .ok (.iload_n 1, 1) := by decide +kernel
theorem dL_cell_8 : decode cL_cell 8 = .ok (.iaload, 1) := by decide +kernel
theorem dL_cell_9 : decode cL_cell 9 = .ok (.goto 9, 3) := by decide +kernel
theorem dL_cell_12 : decode cL_cell 12 = .ok (.ldc 7, 2) := by decide +kernel
theorem dL_cell_14 : decode cL_cell 14 = .ok (.iload_n 1, 1) := by decide +kernel
theorem dL_cell_15 : decode cL_cell 15 = .ok (.iconst 1, 1) := by decide +kernel
theorem dL_cell_16 : decode cL_cell 16 = .ok (.iadd, 1) := by decide +kernel
theorem dL_cell_17 : decode cL_cell 17 = .ok (.imul, 1) := by decide +kernel
theorem dL_cell_18 : decode cL_cell 18 = .ok (.ireturn, 1) := by decide +kernel
theorem dL_low_0 : decode cL_low 0 = .ok (.iload_n 0, 1) := by decide +kernel
theorem dL_low_1 : decode cL_low 1 = .ok (.ldc 8, 2) := by decide +kernel
theorem dL_low_3 : decode cL_low 3 = .ok (.iand, 1) := by decide +kernel
theorem dL_low_4 : decode cL_low 4 = .ok (.iload_n 1, 1) := by decide +kernel
theorem dL_low_5 : decode cL_low 5 = .ok (.irem, 1) := by decide +kernel
theorem dL_low_6 : decode cL_low 6 = .ok (.ireturn, 1) := by decide +kernel
theorem dL_number_0 : decode cL_number 0 = .ok (.aload_n 0, 1) := by decide +kernel
theorem dL_number_1 : decode cL_number 1 = .ok (.iload_n 1, 1) := by decide +kernel
theorem dL_number_2 : decode cL_number 2 = .ok (.invokevirtual 9, 3) := by decide +kernel
theorem dL_number_5 : decode cL_number 5 = .ok (.istore_n 3, 1) := by decide +kernel
theorem dL_number_6 : decode cL_number 6 = .ok (.iload_n 2, 1) := by decide +kernel
theorem dL_number_7 : decode cL_number 7 = .ok (.bipush 99, 2) := by decide +kernel
theorem dL_number_9 : decode cL_number 9 = .ok (.if_icmp .le 18, 3) := by decide +kernel
theorem dL_number_12 : decode cL_number 12 = .ok (.aload_n 0, 1) := by decide +kernel
theorem dL_number_13 : decode cL_number 13 = .ok (.bipush 48, 2) := by decide +kernel
theorem dL_number_15 : decode cL_number 15 = .ok (.iload_n 2, 1) := by decide +kernel
theorem dL_number_16 : decode cL_number 16 = .ok (.bipush 100, 2) := by decide +kernel
theorem dL_number_18 : decode cL_number 18 = .ok (.idiv, 1) := by decide +kernel
theorem dL_number_19 : decode cL_number 19 = .ok (.bipush 10, 2) := by decide +kernel
theorem dL_number_21 : decode cL_number 21 = .ok (.irem, 1) := by decide +kernel
theorem dL_number_22 : decode cL_number 22 = .ok (.iadd, 1) := by decide +kernel
theorem dL_number_23 : decode cL_number 23 = .ok (.invokevirtual 9, 3) := by decide +kernel
theorem dL_number_26 : decode cL_number 26 = .ok (.istore_n 3, 1) := by decide +kernel
theorem dL_number_27 : decode cL_number 27 = .ok (.iload_n 2, 1) := by decide +kernel
theorem dL_number_28 : decode cL_number 28 = .ok (.bipush 9, 2) := by decide +kernel
theorem dL_number_30 : decode cL_number 30 = .ok (.if_icmp .le 18, 3) := by decide +kernel
theorem dL_number_33 : decode cL_number 33 = .ok (.aload_n 0, 1) := by decide +kernel
theorem dL_number_34 : decode cL_number 34 = .ok (.bipush 48, 2) := by decide +kernel
theorem dL_number_36 : decode cL_number 36 = .ok (.iload_n 2, 1) := by decide +kernel
theorem dL_number_37 : decode cL_number 37 = .ok (.bipush 10, 2) := by decide +kernel
theorem dL_number_39 : decode cL_number 39 = .ok (.idiv, 1) := by decide +kernel
theorem dL_number_40 : decode cL_number 40 = .ok (.bipush 10, 2) := by decide +kernel
theorem dL_number_42 : decode cL_number 42 = .ok (.irem, 1) := by decide +kernel
theorem dL_number_43 : decode cL_number 43 = .ok (.iadd, 1) := by decide +kernel
theorem dL_number_44 : decode cL_number 44 = .ok (.invokevirtual 9, 3) := by decide +kernel
theorem dL_number_47 : decode cL_number 47 = .ok (.istore_n 3, 1) := by decide +kernel
theorem dL_number_48 : decode cL_number 48 = .ok (.aload_n 0, 1) := by decide +kernel
theorem dL_number_49 : decode cL_number 49 = .ok (.bipush 48, 2) := by decide +kernel
theorem dL_number_51 : decode cL_number 51 = .ok (.iload_n 2, 1) := by decide +kernel
theorem dL_number_52 : decode cL_number 52 = .ok (.bipush 10, 2) := by decide +kernel
theorem dL_number_54 : decode cL_number 54 = .ok (.irem, 1) := by decide +kernel
theorem dL_number_55 : decode cL_number 55 = .ok (.iadd, 1) := by decide +kernel
theorem dL_number_56 : decode cL_number 56 = .ok (.invokevirtual 9, 3) := by decide +kernel
theorem dL_number_59 : decode cL_number 59 = .ok (.ireturn, 1) := by decide +kernel
theorem dL_write_0 : decode cL_write 0 = .ok (.aload_n 0, 1) := by decide +kernel
theorem dL_write_1 : decode cL_write 1 = .ok (.invokevirtual 15, 3) := by decide +kernel
theorem dL_write_4 : decode cL_write 4 = .ok (.istore_n 2, 1) := by decide +kernel
theorem dL_write_5 : decode cL_write 5 = .ok (.aload_n 0, 1) := by decide +kernel
theorem dL_write_6 : decode cL_write 6 = .ok (.bipush 100, 2) := by decide +kernel
theorem dL_write_8 : decode cL_write 8 = .ok (.iload_n 1, 1) := by decide +kernel
theorem dL_write_9 : decode cL_write 9 = .ok (.iconst 3, 1) := by decide +kernel
theorem dL_write_10 : decode cL_write 10 = .ok (.invokestatic 19, 3) := by decide +kernel
theorem dL_write_13 : decode cL_write 13 = .ok (.invokestatic 25, 3) := by decide +kernel
theorem dL_write_16 : decode cL_write 16 = .ok (.istore_n 2, 1) := by decide +kernel
theorem dL_write_17 : decode cL_write 17 = .ok (.aload_n 0, 1) := by decide +kernel
theorem dL_write_18 : decode cL_write 18 = .ok (.bipush 32, 2) := by decide +kernel
theorem dL_write_20 : decode cL_write 20 = .ok (.invokevirtual 9, 3) := by decide +kernel
theorem dL_write_23 : decode cL_write 23 = .ok (.istore_n 2, 1) := by decide +kernel
theorem dL_write_24 : decode cL_write 24 = .ok (.aload_n 0, 1) := by decide +kernel
theorem dL_write_25 : decode cL_write 25 = .ok (.bipush 103, 2) := by decide +kernel
theorem dL_write_27 : decode cL_write 27 = .ok (.iload_n 1, 1) := by decide +kernel
theorem dL_write_28 : decode cL_write 28 = .ok (.iconst 2, 1) := by decide +kernel
theorem dL_write_29 : decode cL_write 29 = .ok (.ishr, 1) := by decide +kernel
theorem dL_write_30 : decode cL_write 30 = .ok (.iconst 2, 1) := by decide +kernel
theorem dL_write_31 : decode cL_write 31 = .ok (.invokestatic 19, 3) := by decide +kernel
theorem dL_write_34 : decode cL_write 34 = .ok (.invokestatic 25, 3) := by decide +kernel
theorem dL_write_37 : decode cL_write 37 = .ok (.istore_n 2, 1) := by decide +kernel
theorem dL_write_38 : decode cL_write 38 = .ok (.aload_n 0, 1) := by decide +kernel
theorem dL_write_39 : decode cL_write 39 = .ok (.bipush 32, 2) := by decide +kernel
theorem dL_write_41 : decode cL_write 41 = .ok (.invokevirtual 9, 3) := by decide +kernel
theorem dL_write_44 : decode cL_write 44 = .ok (.istore_n 2, 1) := by decide +kernel
theorem dL_write_45 : decode cL_write 45 = .ok (.aload_n 0, 1) := by decide +kernel
theorem dL_write_46 : decode cL_write 46 = .ok (.bipush 119, 2) := by decide +kernel
theorem dL_write_48 : decode cL_write 48 = .ok (.iload_n 1, 1) := by decide +kernel
theorem dL_write_49 : decode cL_write 49 = .ok (.iconst 4, 1) := by decide +kernel
theorem dL_write_50 : decode cL_write 50 = .ok (.ishr, 1) := by decide +kernel
theorem dL_write_51 : decode cL_write 51 = .ok (.iconst 4, 1) := by decide +kernel
theorem dL_write_52 : decode cL_write 52 = .ok (.invokestatic 19, 3) := by decide +kernel
theorem dL_write_55 : decode cL_write 55 = .ok (.invokestatic 25, 3) := by decide +kernel
theorem dL_write_58 : decode cL_write 58 = .ok (.istore_n 2, 1) := by decide +kernel
theorem dL_write_59 : decode cL_write 59 = .ok (.aload_n 0, 1) := by decide +kernel
theorem dL_write_60 : decode cL_write 60 = .ok (.bipush 32, 2) := by decide +kernel
theorem dL_write_62 : decode cL_write 62 = .ok (.invokevirtual 9, 3) := by decide +kernel
theorem dL_write_65 : decode cL_write 65 = .ok (.istore_n 2, 1) := by decide +kernel
theorem dL_write_66 : decode cL_write 66 = .ok (.aload_n 0, 1) := by decide +kernel
theorem dL_write_67 : decode cL_write 67 = .ok (.bipush 104, 2) := by decide +kernel
theorem dL_write_69 : decode cL_write 69 = .ok (.iload_n 1, 1) := by decide +kernel
theorem dL_write_70 : decode cL_write 70 = .ok (.bipush 6, 2) := by decide +kernel
theorem dL_write_72 : decode cL_write 72 = .ok (.ishr, 1) := by decide +kernel
theorem dL_write_73 : decode cL_write 73 = .ok (.iload_n 1, 1) := by decide +kernel
theorem dL_write_74 : decode cL_write 74 = .ok (.bipush 20, 2) := by decide +kernel
theorem dL_write_76 : decode cL_write 76 = .ok (.ishr, 1) := by decide +kernel
theorem dL_write_77 : decode cL_write 77 = .ok (.bipush 9, 2) := by decide +kernel
theorem dL_write_79 : decode cL_write 79 = .ok (.invokestatic 19, 3) := by decide +kernel
theorem dL_write_82 : decode cL_write 82 = .ok (.ifCond .ne 9, 3) := by decide +kernel
theorem dL_write_85 : decode cL_write 85 = .ok (.sipush 1000, 3) := by decide +kernel
theorem dL_write_88 : decode cL_write 88 = .ok (.goto 6, 3) := by decide +kernel
theorem dL_write_91 : decode cL_write 91 = .ok (.sipush 500, 3) := by decide +kernel
theorem dL_write_94 : decode cL_write 94 = .ok (.invokestatic 19, 3) := by decide +kernel
theorem dL_write_97 : decode cL_write 97 = .ok (.invokestatic 25, 3) := by decide +kernel
theorem dL_write_100 : decode cL_write 100 = .ok (.istore_n 2, 1) := by decide +kernel
theorem dL_write_101 : decode cL_write 101 = .ok (.aload_n 0, 1) := by decide +kernel
theorem dL_write_102 : decode cL_write 102 = .ok (.bipush 32, 2) := by decide +kernel
theorem dL_write_104 : decode cL_write 104 = .ok (.invokevirtual 9, 3) := by decide +kernel
theorem dL_write_107 : decode cL_write 107 = .ok (.istore_n 2, 1) := by decide +kernel
theorem dL_write_108 : decode cL_write 108 = .ok (.iload_n 1, 1) := by decide +kernel
theorem dL_write_109 : decode cL_write 109 = .ok (.bipush 23, 2) := by decide +kernel
theorem dL_write_111 : decode cL_write 111 = .ok (.ishr, 1) := by decide +kernel
theorem dL_write_112 : decode cL_write 112 = .ok (.bipush 12, 2) := by decide +kernel
theorem dL_write_114 : decode cL_write 114 = .ok (.invokestatic 19, 3) := by decide +kernel
theorem dL_write_117 : decode cL_write 117 = .ok (.ifCond .ne 7, 3) := by decide +kernel
theorem dL_write_120 : decode cL_write 120 = .ok (.iload_n 2, 1) := by decide +kernel
theorem dL_write_121 : decode cL_write 121 = .ok (.goto 21, 3) := by decide +kernel
theorem dL_write_124 : decode cL_write 124 = .ok (.aload_n 0, 1) := by decide +kernel
theorem dL_write_125 : decode cL_write 125 = .ok (.bipush 114, 2) := by decide +kernel
theorem dL_write_127 : decode cL_write 127 = .ok (.iconst 1, 1) := by decide +kernel
theorem dL_write_128 : decode cL_write 128 = .ok (.iload_n 1, 1) := by decide +kernel
theorem dL_write_129 : decode cL_write 129 = .ok (.bipush 9, 2) := by decide +kernel
theorem dL_write_131 : decode cL_write 131 = .ok (.ishr, 1) := by decide +kernel
theorem dL_write_132 : decode cL_write 132 = .ok (.sipush 900, 3) := by decide +kernel
theorem dL_write_135 : decode cL_write 135 = .ok (.invokestatic 19, 3) := by decide +kernel
theorem dL_write_138 : decode cL_write 138 = .ok (.iadd, 1) := by decide +kernel
theorem dL_write_139 : decode cL_write 139 = .ok (.invokestatic 25, 3) := by decide +kernel
theorem dL_write_142 : decode cL_write 142 = .ok (.ireturn, 1) := by decide +kernel
theorem dL_change_0 : decode cL_change 0 = .ok (.aload_n 0, 1) := by decide +kernel
theorem dL_change_1 : decode cL_change 1 = .ok (.iconst 0, 1) := by decide +kernel
theorem dL_change_2 : decode cL_change 2 = .ok (.invokevirtual 29, 3) := by decide +kernel
theorem dL_change_5 : decode cL_change 5 = .ok (.istore_n 3, 1) := by decide +kernel
theorem dL_change_6 : decode cL_change 6 = .ok (.iload_n 3, 1) := by decide +kernel
theorem dL_change_7 : decode cL_change 7 = .ok (.ifCond .ne 7, 3) := by decide +kernel
theorem dL_change_10 : decode cL_change 10 = .ok (.iconst 0, 1) := by decide +kernel
theorem dL_change_11 : decode cL_change 11 = .ok (.goto 10, 3) := by decide +kernel
theorem dL_change_14 : decode cL_change 14 = .ok (.iload_n 1, 1) := by decide +kernel
theorem dL_change_15 : decode cL_change 15 = .ok (.iconst 5, 1) := by decide +kernel
theorem dL_change_16 : decode cL_change 16 = .ok (.ishr, 1) := by decide +kernel
theorem dL_change_17 : decode cL_change 17 = .ok (.iload_n 3, 1) := by decide +kernel
theorem dL_change_18 : decode cL_change 18 = .ok (.invokestatic 19, 3) := by decide +kernel
theorem dL_change_21 : decode cL_change 21 = .ok (.istore 4, 2) := by decide +kernel
theorem dL_change_23 : decode cL_change 23 = .ok (.iload_n 1, 1) := by decide +kernel
theorem dL_change_24 : decode cL_change 24 = .ok (.bipush 26, 2) := by decide +kernel
theorem dL_change_26 : decode cL_change 26 = .ok (.invokestatic 19, 3) := by decide +kernel
theorem dL_change_29 : decode cL_change 29 = .ok (.tableswitch 385 0 18 #[91, 146, 157, 174, 187, 221, 228, 248, 286, 286, 320, 331, 331, 331, 341, 341, 341, 346, 351], 91) := by decide +kernel
theorem dL_change_120 : decode cL_change 120 = .ok (.iload_n 2, 1) := by decide +kernel
theorem dL_change_121 : decode cL_change 121 = .ok (.iconst 5, 1) := by decide +kernel
theorem dL_change_122 : decode cL_change 122 = .ok (.invokestatic 19, 3) := by decide +kernel
theorem dL_change_125 : decode cL_change 125 = .ok (.ifCond .ne 37, 3) := by decide +kernel
theorem dL_change_128 : decode cL_change 128 = .ok (.aload_n 0, 1) := by decide +kernel
theorem dL_change_129 : decode cL_change 129 = .ok (.iload_n 2, 1) := by decide +kernel
theorem dL_change_130 : decode cL_change 130 = .ok (.iconst 3, 1) := by decide +kernel
theorem dL_change_131 : decode cL_change 131 = .ok (.ishr, 1) := by decide +kernel
theorem dL_change_132 : decode cL_change 132 = .ok (.bipush 6, 2) := by decide +kernel
theorem dL_change_134 : decode cL_change 134 = .ok (.invokestatic 19, 3) := by decide +kernel
theorem dL_change_137 : decode cL_change 137 = .ok (.iload_n 2, 1) := by decide +kernel
theorem dL_change_138 : decode cL_change 138 = .ok (.bipush 6, 2) := by decide +kernel
theorem dL_change_140 : decode cL_change 140 = .ok (.ishr, 1) := by decide +kernel
theorem dL_change_141 : decode cL_change 141 = .ok (.bipush 20, 2) := by decide +kernel
theorem dL_change_143 : decode cL_change 143 = .ok (.invokestatic 19, 3) := by decide +kernel
theorem dL_change_146 : decode cL_change 146 = .ok (.iconst 1, 1) := by decide +kernel
theorem dL_change_147 : decode cL_change 147 = .ok (.iload_n 2, 1) := by decide +kernel
theorem dL_change_148 : decode cL_change 148 = .ok (.bipush 11, 2) := by decide +kernel
theorem dL_change_150 : decode cL_change 150 = .ok (.ishr, 1) := by decide +kernel
theorem dL_change_151 : decode cL_change 151 = .ok (.iconst 4, 1) := by decide +kernel
theorem dL_change_152 : decode cL_change 152 = .ok (.invokestatic 19, 3) := by decide +kernel
theorem dL_change_155 : decode cL_change 155 = .ok (.iadd, 1) := by decide +kernel
theorem dL_change_156 : decode cL_change 156 = .ok (.invokevirtual 32, 3) := by decide +kernel
theorem dL_change_159 : decode cL_change 159 = .ok (.goto 15, 3) := by decide +kernel
theorem dL_change_162 : decode cL_change 162 = .ok (.aload_n 0, 1) := by decide +kernel
theorem dL_change_163 : decode cL_change 163 = .ok (.iconst 1, 1) := by decide +kernel
theorem dL_change_164 : decode cL_change 164 = .ok (.iload_n 2, 1) := by decide +kernel
theorem dL_change_165 : decode cL_change 165 = .ok (.iconst 3, 1) := by decide +kernel
theorem dL_change_166 : decode cL_change 166 = .ok (.ishr, 1) := by decide +kernel
theorem dL_change_167 : decode cL_change 167 = .ok (.iconst 2, 1) := by decide +kernel
theorem dL_change_168 : decode cL_change 168 = .ok (.invokestatic 19, 3) := by decide +kernel
theorem dL_change_171 : decode cL_change 171 = .ok (.invokevirtual 36, 3) := by decide +kernel
theorem dL_change_174 : decode cL_change 174 = .ok (.ireturn, 1) := by decide +kernel
theorem dL_change_175 : decode cL_change 175 = .ok (.aload_n 0, 1) := by decide +kernel
theorem dL_change_176 : decode cL_change 176 = .ok (.iconst 0, 1) := by decide +kernel
theorem dL_change_177 : decode cL_change 177 = .ok (.iload_n 2, 1) := by decide +kernel
theorem dL_change_178 : decode cL_change 178 = .ok (.iconst 3, 1) := by decide +kernel
theorem dL_change_179 : decode cL_change 179 = .ok (.invokestatic 19, 3) := by decide +kernel
theorem dL_change_182 : decode cL_change 182 = .ok (.invokevirtual 36, 3) := by decide +kernel
theorem dL_change_185 : decode cL_change 185 = .ok (.ireturn, 1) := by decide +kernel
theorem dL_change_186 : decode cL_change 186 = .ok (.aload_n 0, 1) := by decide +kernel
theorem dL_change_187 : decode cL_change 187 = .ok (.iconst 2, 1) := by decide +kernel
theorem dL_change_188 : decode cL_change 188 = .ok (.sipush 200, 3) := by decide +kernel
theorem dL_change_191 : decode cL_change 191 = .ok (.iload_n 2, 1) := by decide +kernel
theorem dL_change_192 : decode cL_change 192 = .ok (.sipush 900, 3) := by decide +kernel
theorem dL_change_195 : decode cL_change 195 = .ok (.invokestatic 19, 3) := by decide +kernel
theorem dL_change_198 : decode cL_change 198 = .ok (.iadd, 1) := by decide +kernel
theorem dL_change_199 : decode cL_change 199 = .ok (.invokevirtual 36, 3) := by decide +kernel
theorem dL_change_202 : decode cL_change 202 = .ok (.ireturn, 1) := by decide +kernel
theorem dL_change_203 : decode cL_change 203 = .ok (.aload_n 0, 1) := by decide +kernel
theorem dL_change_204 : decode cL_change 204 = .ok (.iconst 3, 1) := by decide +kernel
theorem dL_change_205 : decode cL_change 205 = .ok (.iload_n 2, 1) := by decide +kernel
theorem dL_change_206 : decode cL_change 206 = .ok (.sipush 900, 3) := by decide +kernel
theorem dL_change_209 : decode cL_change 209 = .ok (.invokestatic 19, 3) := by decide +kernel
theorem dL_change_212 : decode cL_change 212 = .ok (.invokevirtual 36, 3) := by decide +kernel
theorem dL_change_215 : decode cL_change 215 = .ok (.ireturn, 1) := by decide +kernel
theorem dL_change_216 : decode cL_change 216 = .ok (.aload_n 0, 1) := by decide +kernel
theorem dL_change_217 : decode cL_change 217 = .ok (.iload_n 2, 1) := by decide +kernel
theorem dL_change_218 : decode cL_change 218 = .ok (.iconst 3, 1) := by decide +kernel
theorem dL_change_219 : decode cL_change 219 = .ok (.invokestatic 19, 3) := by decide +kernel
theorem dL_change_222 : decode cL_change 222 = .ok (.iload_n 2, 1) := by decide +kernel
theorem dL_change_223 : decode cL_change 223 = .ok (.iconst 2, 1) := by decide +kernel
theorem dL_change_224 : decode cL_change 224 = .ok (.ishr, 1) := by decide +kernel
theorem dL_change_225 : decode cL_change 225 = .ok (.iconst 4, 1) := by decide +kernel
theorem dL_change_226 : decode cL_change 226 = .ok (.invokestatic 19, 3) := by decide +kernel
theorem dL_change_229 : decode cL_change 229 = .ok (.ifCond .ne 8, 3) := by decide +kernel
theorem dL_change_232 : decode cL_change 232 = .ok (.ldc 39, 2) := by decide +kernel
theorem dL_change_234 : decode cL_change 234 = .ok (.goto 12, 3) := by decide +kernel
theorem dL_change_237 : decode cL_change 237 = .ok (.iload_n 2, 1) := by decide +kernel
theorem dL_change_238 : decode cL_change 238 = .ok (.iconst 4, 1) := by decide +kernel
theorem dL_change_239 : decode cL_change 239 = .ok (.ishr, 1) := by decide +kernel
theorem dL_change_240 : decode cL_change 240 = .ok (.sipush 2000, 3) := by decide +kernel
theorem dL_change_243 : decode cL_change 243 = .ok (.invokestatic 19, 3) := by decide +kernel
theorem dL_change_246 : decode cL_change 246 = .ok (.invokevirtual 40, 3) := by decide +kernel
theorem dL_change_249 : decode cL_change 249 = .ok (.ireturn, 1) := by decide +kernel
theorem dL_change_250 : decode cL_change 250 = .ok (.aload_n 0, 1) := by decide +kernel
theorem dL_change_251 : decode cL_change 251 = .ok (.iload 4, 2) := by decide +kernel
theorem dL_change_253 : decode cL_change 253 = .ok (.invokevirtual 43, 3) := by decide +kernel
theorem dL_change_256 : decode cL_change 256 = .ok (.ireturn, 1) := by decide +kernel
theorem dL_change_257 : decode cL_change 257 = .ok (.iload_n 3, 1) := by decide +kernel
theorem dL_change_258 : decode cL_change 258 = .ok (.ifCond .ne 7, 3) := by decide +kernel
theorem dL_change_261 : decode cL_change 261 = .ok (.iconst (-1), 1) := by decide +kernel
theorem dL_change_262 : decode cL_change 262 = .ok (.goto 14, 3) := by decide +kernel
theorem dL_change_265 : decode cL_change 265 = .ok (.aload_n 0, 1) := by decide +kernel
theorem dL_change_266 : decode cL_change 266 = .ok (.iload 4, 2) := by decide +kernel
theorem dL_change_268 : decode cL_change 268 = .ok (.iload_n 2, 1) := by decide +kernel
theorem dL_change_269 : decode cL_change 269 = .ok (.iload_n 3, 1) := by decide +kernel
theorem dL_change_270 : decode cL_change 270 = .ok (.invokestatic 19, 3) := by decide +kernel
theorem dL_change_273 : decode cL_change 273 = .ok (.invokevirtual 46, 3) := by decide +kernel
theorem dL_change_276 : decode cL_change 276 = .ok (.ireturn, 1) := by decide +kernel
theorem dL_change_277 : decode cL_change 277 = .ok (.aload_n 0, 1) := by decide +kernel
theorem dL_change_278 : decode cL_change 278 = .ok (.iload 4, 2) := by decide +kernel
theorem dL_change_280 : decode cL_change 280 = .ok (.iload_n 2, 1) := by decide +kernel
theorem dL_change_281 : decode cL_change 281 = .ok (.bipush 24, 2) := by decide +kernel
theorem dL_change_283 : decode cL_change 283 = .ok (.invokestatic 19, 3) := by decide +kernel
theorem dL_change_286 : decode cL_change 286 = .ok (.iload_n 2, 1) := by decide +kernel
theorem dL_change_287 : decode cL_change 287 = .ok (.iconst 5, 1) := by decide +kernel
theorem dL_change_288 : decode cL_change 288 = .ok (.ishr, 1) := by decide +kernel
theorem dL_change_289 : decode cL_change 289 = .ok (.bipush 6, 2) := by decide +kernel
theorem dL_change_291 : decode cL_change 291 = .ok (.invokestatic 19, 3) := by decide +kernel
theorem dL_change_294 : decode cL_change 294 = .ok (.ifCond .ne 8, 3) := by decide +kernel
theorem dL_change_297 : decode cL_change 297 = .ok (.ldc 39, 2) := by decide +kernel
theorem dL_change_299 : decode cL_change 299 = .ok (.goto 12, 3) := by decide +kernel
theorem dL_change_302 : decode cL_change 302 = .ok (.iload_n 2, 1) := by decide +kernel
theorem dL_change_303 : decode cL_change 303 = .ok (.bipush 8, 2) := by decide +kernel
theorem dL_change_305 : decode cL_change 305 = .ok (.ishr, 1) := by decide +kernel
theorem dL_change_306 : decode cL_change 306 = .ok (.bipush 10, 2) := by decide +kernel
theorem dL_change_308 : decode cL_change 308 = .ok (.invokestatic 19, 3) := by decide +kernel
theorem dL_change_311 : decode cL_change 311 = .ok (.invokevirtual 49, 3) := by decide +kernel
theorem dL_change_314 : decode cL_change 314 = .ok (.ireturn, 1) := by decide +kernel
theorem dL_change_315 : decode cL_change 315 = .ok (.aload_n 0, 1) := by decide +kernel
theorem dL_change_316 : decode cL_change 316 = .ok (.iload 4, 2) := by decide +kernel
theorem dL_change_318 : decode cL_change 318 = .ok (.iload_n 2, 1) := by decide +kernel
theorem dL_change_319 : decode cL_change 319 = .ok (.iconst 3, 1) := by decide +kernel
theorem dL_change_320 : decode cL_change 320 = .ok (.invokestatic 19, 3) := by decide +kernel
theorem dL_change_323 : decode cL_change 323 = .ok (.ifCond .le 7, 3) := by decide +kernel
theorem dL_change_326 : decode cL_change 326 = .ok (.iconst 0, 1) := by decide +kernel
theorem dL_change_327 : decode cL_change 327 = .ok (.goto 10, 3) := by decide +kernel
theorem dL_change_330 : decode cL_change 330 = .ok (.iload_n 2, 1) := by decide +kernel
theorem dL_change_331 : decode cL_change 331 = .ok (.iconst 2, 1) := by decide +kernel
theorem dL_change_332 : decode cL_change 332 = .ok (.ishr, 1) := by decide +kernel
theorem dL_change_333 : decode cL_change 333 = .ok (.iconst 4, 1) := by decide +kernel
theorem dL_change_334 : decode cL_change 334 = .ok (.invokestatic 19, 3) := by decide +kernel
theorem dL_change_337 : decode cL_change 337 = .ok (.iload_n 2, 1) := by decide +kernel
theorem dL_change_338 : decode cL_change 338 = .ok (.iconst 4, 1) := by decide +kernel
theorem dL_change_339 : decode cL_change 339 = .ok (.ishr, 1) := by decide +kernel
theorem dL_change_340 : decode cL_change 340 = .ok (.bipush 24, 2) := by decide +kernel
theorem dL_change_342 : decode cL_change 342 = .ok (.invokestatic 19, 3) := by decide +kernel
theorem dL_change_345 : decode cL_change 345 = .ok (.invokevirtual 52, 3) := by decide +kernel
theorem dL_change_348 : decode cL_change 348 = .ok (.ireturn, 1) := by decide +kernel
theorem dL_change_349 : decode cL_change 349 = .ok (.aload_n 0, 1) := by decide +kernel
theorem dL_change_350 : decode cL_change 350 = .ok (.iload_n 2, 1) := by decide +kernel
theorem dL_change_351 : decode cL_change 351 = .ok (.bipush 24, 2) := by decide +kernel
theorem dL_change_353 : decode cL_change 353 = .ok (.invokestatic 19, 3) := by decide +kernel
theorem dL_change_356 : decode cL_change 356 = .ok (.invokevirtual 55, 3) := by decide +kernel
theorem dL_change_359 : decode cL_change 359 = .ok (.ireturn, 1) := by decide +kernel
theorem dL_change_360 : decode cL_change 360 = .ok (.aload_n 0, 1) := by decide +kernel
theorem dL_change_361 : decode cL_change 361 = .ok (.iload_n 2, 1) := by decide +kernel
theorem dL_change_362 : decode cL_change 362 = .ok (.iconst 3, 1) := by decide +kernel
theorem dL_change_363 : decode cL_change 363 = .ok (.invokestatic 19, 3) := by decide +kernel
theorem dL_change_366 : decode cL_change 366 = .ok (.invokevirtual 58, 3) := by decide +kernel
theorem dL_change_369 : decode cL_change 369 = .ok (.ireturn, 1) := by decide +kernel
theorem dL_change_370 : decode cL_change 370 = .ok (.aload_n 0, 1) := by decide +kernel
theorem dL_change_371 : decode cL_change 371 = .ok (.invokevirtual 61, 3) := by decide +kernel
theorem dL_change_374 : decode cL_change 374 = .ok (.ireturn, 1) := by decide +kernel
theorem dL_change_375 : decode cL_change 375 = .ok (.aload_n 0, 1) := by decide +kernel
theorem dL_change_376 : decode cL_change 376 = .ok (.invokevirtual 64, 3) := by decide +kernel
theorem dL_change_379 : decode cL_change 379 = .ok (.ireturn, 1) := by decide +kernel
theorem dL_change_380 : decode cL_change 380 = .ok (.iload_n 2, 1) := by decide +kernel
theorem dL_change_381 : decode cL_change 381 = .ok (.iconst 2, 1) := by decide +kernel
theorem dL_change_382 : decode cL_change 382 = .ok (.invokestatic 19, 3) := by decide +kernel
theorem dL_change_385 : decode cL_change 385 = .ok (.ifCond .ne 17, 3) := by decide +kernel
theorem dL_change_388 : decode cL_change 388 = .ok (.aload_n 0, 1) := by decide +kernel
theorem dL_change_389 : decode cL_change 389 = .ok (.iload_n 2, 1) := by decide +kernel
theorem dL_change_390 : decode cL_change 390 = .ok (.iconst 1, 1) := by decide +kernel
theorem dL_change_391 : decode cL_change 391 = .ok (.ishr, 1) := by decide +kernel
theorem dL_change_392 : decode cL_change 392 = .ok (.iconst 2, 1) := by decide +kernel
theorem dL_change_393 : decode cL_change 393 = .ok (.invokestatic 19, 3) := by decide +kernel
theorem dL_change_396 : decode cL_change 396 = .ok (.invokevirtual 67, 3) := by decide +kernel
theorem dL_change_399 : decode cL_change 399 = .ok (.goto 14, 3) := by decide +kernel
theorem dL_change_402 : decode cL_change 402 = .ok (.aload_n 0, 1) := by decide +kernel
theorem dL_change_403 : decode cL_change 403 = .ok (.iload_n 2, 1) := by decide +kernel
theorem dL_change_404 : decode cL_change 404 = .ok (.iconst 1, 1) := by decide +kernel
theorem dL_change_405 : decode cL_change 405 = .ok (.ishr, 1) := by decide +kernel
theorem dL_change_406 : decode cL_change 406 = .ok (.iconst 2, 1) := by decide +kernel
theorem dL_change_407 : decode cL_change 407 = .ok (.invokestatic 19, 3) := by decide +kernel
theorem dL_change_410 : decode cL_change 410 = .ok (.invokevirtual 70, 3) := by decide +kernel
theorem dL_change_413 : decode cL_change 413 = .ok (.ireturn, 1) := by decide +kernel
theorem dL_change_414 : decode cL_change 414 = .ok (.aload_n 0, 1) := by decide +kernel
theorem dL_change_415 : decode cL_change 415 = .ok (.iload_n 2, 1) := by decide +kernel
theorem dL_change_416 : decode cL_change 416 = .ok (.invokestatic 73, 3) := by decide +kernel
theorem dL_change_419 : decode cL_change 419 = .ok (.istore 5, 2) := by decide +kernel
theorem dL_change_421 : decode cL_change 421 = .ok (.aload_n 0, 1) := by decide +kernel
theorem dL_change_422 : decode cL_change 422 = .ok (.iload_n 1, 1) := by decide +kernel
theorem dL_change_423 : decode cL_change 423 = .ok (.bipush 9, 2) := by decide +kernel
theorem dL_change_425 : decode cL_change 425 = .ok (.ishr, 1) := by decide +kernel
theorem dL_change_426 : decode cL_change 426 = .ok (.iload_n 3, 1) := by decide +kernel
theorem dL_change_427 : decode cL_change 427 = .ok (.iconst 1, 1) := by decide +kernel
theorem dL_change_428 : decode cL_change 428 = .ok (.iadd, 1) := by decide +kernel
theorem dL_change_429 : decode cL_change 429 = .ok (.invokestatic 19, 3) := by decide +kernel
theorem dL_change_432 : decode cL_change 432 = .ok (.invokevirtual 76, 3) := by decide +kernel
theorem dL_change_435 : decode cL_change 435 = .ok (.ireturn, 1) := by decide +kernel
theorem dL_isReport_0 : decode cL_isReport 0 = .ok (.aload_n 0, 1) := by decide +kernel
theorem dL_isReport_1 : decode cL_isReport 1 = .ok (.iconst 1, 1) := by decide +kernel
theorem dL_isReport_2 : decode cL_isReport 2 = .ok (.invokevirtual 29, 3) := by decide +kernel
theorem dL_isReport_5 : decode cL_isReport 5 = .ok (.istore_n 1, 1) := by decide +kernel
theorem dL_isReport_6 : decode cL_isReport 6 = .ok (.iload_n 1, 1) := by decide +kernel
theorem dL_isReport_7 : decode cL_isReport 7 = .ok (.ifCond .ne 45, 3) := by decide +kernel
theorem dL_isReport_10 : decode cL_isReport 10 = .ok (.aload_n 0, 1) := by decide +kernel
theorem dL_isReport_11 : decode cL_isReport 11 = .ok (.iconst 2, 1) := by decide +kernel
theorem dL_isReport_12 : decode cL_isReport 12 = .ok (.invokevirtual 29, 3) := by decide +kernel
theorem dL_isReport_15 : decode cL_isReport 15 = .ok (.ldc 39, 2) := by decide +kernel
theorem dL_isReport_17 : decode cL_isReport 17 = .ok (.if_icmp .ne 33, 3) := by decide +kernel
theorem dL_isReport_20 : decode cL_isReport 20 = .ok (.aload_n 0, 1) := by decide +kernel
theorem dL_isReport_21 : decode cL_isReport 21 = .ok (.invokevirtual 79, 3) := by decide +kernel
theorem dL_isReport_24 : decode cL_isReport 24 = .ok (.iconst 1, 1) := by decide +kernel
theorem dL_isReport_25 : decode cL_isReport 25 = .ok (.if_icmp .ne 25, 3) := by decide +kernel
theorem dL_isReport_28 : decode cL_isReport 28 = .ok (.aload_n 0, 1) := by decide +kernel
theorem dL_isReport_29 : decode cL_isReport 29 = .ok (.invokevirtual 82, 3) := by decide +kernel
theorem dL_isReport_32 : decode cL_isReport 32 = .ok (.fconst 0, 1) := by decide +kernel
theorem dL_isReport_33 : decode cL_isReport 33 = .ok (.fcmp .l, 1) := by decide +kernel
theorem dL_isReport_34 : decode cL_isReport 34 = .ok (.ifCond .ne 16, 3) := by decide +kernel
theorem dL_isReport_37 : decode cL_isReport 37 = .ok (.aload_n 0, 1) := by decide +kernel
theorem dL_isReport_38 : decode cL_isReport 38 = .ok (.iconst (-1), 1) := by decide +kernel
theorem dL_isReport_39 : decode cL_isReport 39 = .ok (.iconst 0, 1) := by decide +kernel
theorem dL_isReport_40 : decode cL_isReport 40 = .ok (.invokevirtual 86, 3) := by decide +kernel
theorem dL_isReport_43 : decode cL_isReport 43 = .ok (.ifCond .ne 7, 3) := by decide +kernel
theorem dL_isReport_46 : decode cL_isReport 46 = .ok (.iconst 1, 1) := by decide +kernel
theorem dL_isReport_47 : decode cL_isReport 47 = .ok (.goto 4, 3) := by decide +kernel
theorem dL_isReport_50 : decode cL_isReport 50 = .ok (.iconst 0, 1) := by decide +kernel
theorem dL_isReport_51 : decode cL_isReport 51 = .ok (.ireturn, 1) := by decide +kernel
theorem dL_isReport_52 : decode cL_isReport 52 = .ok (.bipush 20, 2) := by decide +kernel
theorem dL_isReport_54 : decode cL_isReport 54 = .ok (.newarray .int, 2) := by decide +kernel
theorem dL_isReport_56 : decode cL_isReport 56 = .ok (.astore_n 2, 1) := by decide +kernel
theorem dL_isReport_57 : decode cL_isReport 57 = .ok (.iconst 0, 1) := by decide +kernel
theorem dL_isReport_58 : decode cL_isReport 58 = .ok (.istore_n 3, 1) := by decide +kernel
theorem dL_isReport_59 : decode cL_isReport 59 = .ok (.iconst 0, 1) := by decide +kernel
theorem dL_isReport_60 : decode cL_isReport 60 = .ok (.istore 4, 2) := by decide +kernel
theorem dL_isReport_62 : decode cL_isReport 62 = .ok (.iload 4, 2) := by decide +kernel
theorem dL_isReport_64 : decode cL_isReport 64 = .ok (.iload_n 1, 1) := by decide +kernel
theorem dL_isReport_65 : decode cL_isReport 65 = .ok (.if_icmp .ge 330, 3) := by decide +kernel
theorem dL_isReport_68 : decode cL_isReport 68 = .ok (.aload_n 0, 1) := by decide +kernel
theorem dL_isReport_69 : decode cL_isReport 69 = .ok (.iload 4, 2) := by decide +kernel
theorem dL_isReport_71 : decode cL_isReport 71 = .ok (.iconst 0, 1) := by decide +kernel
theorem dL_isReport_72 : decode cL_isReport 72 = .ok (.invokevirtual 89, 3) := by decide +kernel
theorem dL_isReport_75 : decode cL_isReport 75 = .ok (.istore 5, 2) := by decide +kernel
theorem dL_isReport_77 : decode cL_isReport 77 = .ok (.iload 5, 2) := by decide +kernel
theorem dL_isReport_79 : decode cL_isReport 79 = .ok (.ifCond .ne 46, 3) := by decide +kernel
theorem dL_isReport_82 : decode cL_isReport 82 = .ok (.iload_n 3, 1) := by decide +kernel
theorem dL_isReport_83 : decode cL_isReport 83 = .ok (.iconst 1, 1) := by decide +kernel
theorem dL_isReport_84 : decode cL_isReport 84 = .ok (.iadd, 1) := by decide +kernel
theorem dL_isReport_85 : decode cL_isReport 85 = .ok (.istore_n 3, 1) := by decide +kernel
theorem dL_isReport_86 : decode cL_isReport 86 = .ok (.aload_n 0, 1) := by decide +kernel
theorem dL_isReport_87 : decode cL_isReport 87 = .ok (.iload 4, 2) := by decide +kernel
theorem dL_isReport_89 : decode cL_isReport 89 = .ok (.iconst 4, 1) := by decide +kernel
theorem dL_isReport_90 : decode cL_isReport 90 = .ok (.invokevirtual 89, 3) := by decide +kernel
theorem dL_isReport_93 : decode cL_isReport 93 = .ok (.iconst 1, 1) := by decide +kernel
theorem dL_isReport_94 : decode cL_isReport 94 = .ok (.if_icmp .ne 29, 3) := by decide +kernel
theorem dL_isReport_97 : decode cL_isReport 97 = .ok (.aload_n 0, 1) := by decide +kernel
theorem dL_isReport_98 : decode cL_isReport 98 = .ok (.iload 4, 2) := by decide +kernel
theorem dL_isReport_100 : decode cL_isReport 100 = .ok (.bipush 7, 2) := by decide +kernel
theorem dL_isReport_102 : decode cL_isReport 102 = .ok (.invokevirtual 89, 3) := by decide +kernel
theorem dL_isReport_105 : decode cL_isReport 105 = .ok (.ifCond .ne 18, 3) := by decide +kernel
theorem dL_isReport_108 : decode cL_isReport 108 = .ok (.aload_n 0, 1) := by decide +kernel
theorem dL_isReport_109 : decode cL_isReport 109 = .ok (.aload_n 0, 1) := by decide +kernel
theorem dL_isReport_110 : decode cL_isReport 110 = .ok (.iload 4, 2) := by decide +kernel
theorem dL_isReport_112 : decode cL_isReport 112 = .ok (.bipush 8, 2) := by decide +kernel
theorem dL_isReport_114 : decode cL_isReport 114 = .ok (.invokevirtual 89, 3) := by decide +kernel
theorem dL_isReport_117 : decode cL_isReport 117 = .ok (.invokevirtual 92, 3) := by decide +kernel
theorem dL_isReport_120 : decode cL_isReport 120 = .ok (.ifCond .eq 225, 3) := by decide +kernel
theorem dL_isReport_123 : decode cL_isReport 123 = .ok (.iconst 0, 1) := by decide +kernel
theorem dL_isReport_124 : decode cL_isReport 124 = .ok (.ireturn, 1) := by decide +kernel
theorem dL_isReport_125 : decode cL_isReport 125 = .ok (.iload 5, 2) := by decide +kernel
theorem dL_isReport_127 : decode cL_isReport 127 = .ok (.iconst 1, 1) := by decide +kernel
theorem dL_isReport_128 : decode cL_isReport 128 = .ok (.if_icmp .ne 14, 3) := by decide +kernel
theorem dL_isReport_131 : decode cL_isReport 131 = .ok (.aload_n 0, 1) := by decide +kernel
theorem dL_isReport_132 : decode cL_isReport 132 = .ok (.iload 4, 2) := by decide +kernel
theorem dL_isReport_134 : decode cL_isReport 134 = .ok (.bipush 7, 2) := by decide +kernel
theorem dL_isReport_136 : decode cL_isReport 136 = .ok (.invokevirtual 89, 3) := by decide +kernel
theorem dL_isReport_139 : decode cL_isReport 139 = .ok (.goto 4, 3) := by decide +kernel
theorem dL_isReport_142 : decode cL_isReport 142 = .ok (.iconst 0, 1) := by decide +kernel
theorem dL_isReport_143 : decode cL_isReport 143 = .ok (.istore 6, 2) := by decide +kernel
theorem dL_isReport_145 : decode cL_isReport 145 = .ok (.aload_n 0, 1) := by decide +kernel
theorem dL_isReport_146 : decode cL_isReport 146 = .ok (.iload 4, 2) := by decide +kernel
theorem dL_isReport_148 : decode cL_isReport 148 = .ok (.iconst 4, 1) := by decide +kernel
theorem dL_isReport_149 : decode cL_isReport 149 = .ok (.invokevirtual 89, 3) := by decide +kernel
theorem dL_isReport_152 : decode cL_isReport 152 = .ok (.aload_n 2, 1) := by decide +kernel
theorem dL_isReport_153 : decode cL_isReport 153 = .ok (.iconst 4, 1) := by decide +kernel
theorem dL_isReport_154 : decode cL_isReport 154 = .ok (.iload 5, 2) := by decide +kernel
theorem dL_isReport_156 : decode cL_isReport 156 = .ok (.imul, 1) := by decide +kernel
theorem dL_isReport_157 : decode cL_isReport 157 = .ok (.iconst 4, 1) := by decide +kernel
theorem dL_isReport_158 : decode cL_isReport 158 = .ok (.isub, 1) := by decide +kernel
theorem dL_isReport_159 : decode cL_isReport 159 = .ok (.iaload, 1) := by decide +kernel
theorem dL_isReport_160 : decode cL_isReport 160 = .ok (.if_icmp .ne 85, 3) := by decide +kernel
theorem dL_isReport_163 : decode cL_isReport 163 = .ok (.aload_n 0, 1) := by decide +kernel
theorem dL_isReport_164 : decode cL_isReport 164 = .ok (.iload 4, 2) := by decide +kernel
theorem dL_isReport_166 : decode cL_isReport 166 = .ok (.iconst 5, 1) := by decide +kernel
theorem dL_isReport_167 : decode cL_isReport 167 = .ok (.invokevirtual 89, 3) := by decide +kernel
theorem dL_isReport_170 : decode cL_isReport 170 = .ok (.aload_n 2, 1) := by decide +kernel
theorem dL_isReport_171 : decode cL_isReport 171 = .ok (.iconst 4, 1) := by decide +kernel
theorem dL_isReport_172 : decode cL_isReport 172 = .ok (.iload 5, 2) := by decide +kernel
theorem dL_isReport_174 : decode cL_isReport 174 = .ok (.imul, 1) := by decide +kernel
theorem dL_isReport_175 : decode cL_isReport 175 = .ok (.iconst 3, 1) := by decide +kernel
theorem dL_isReport_176 : decode cL_isReport 176 = .ok (.isub, 1) := by decide +kernel
theorem dL_isReport_177 : decode cL_isReport 177 = .ok (.iaload, 1) := by decide +kernel
theorem dL_isReport_178 : decode cL_isReport 178 = .ok (.if_icmp .ne 67, 3) := by decide +kernel
theorem dL_isReport_181 : decode cL_isReport 181 = .ok (.aload_n 0, 1) := by decide +kernel
theorem dL_isReport_182 : decode cL_isReport 182 = .ok (.iload 4, 2) := by decide +kernel
theorem dL_isReport_184 : decode cL_isReport 184 = .ok (.bipush 6, 2) := by decide +kernel
theorem dL_isReport_186 : decode cL_isReport 186 = .ok (.invokevirtual 89, 3) := by decide +kernel
theorem dL_isReport_189 : decode cL_isReport 189 = .ok (.aload_n 2, 1) := by decide +kernel
theorem dL_isReport_190 : decode cL_isReport 190 = .ok (.iconst 4, 1) := by decide +kernel
theorem dL_isReport_191 : decode cL_isReport 191 = .ok (.iload 5, 2) := by decide +kernel
theorem dL_isReport_193 : decode cL_isReport 193 = .ok (.imul, 1) := by decide +kernel
theorem dL_isReport_194 : decode cL_isReport 194 = .ok (.iconst 2, 1) := by decide +kernel
theorem dL_isReport_195 : decode cL_isReport 195 = .ok (.isub, 1) := by decide +kernel
theorem dL_isReport_196 : decode cL_isReport 196 = .ok (.iaload, 1) := by decide +kernel
theorem dL_isReport_197 : decode cL_isReport 197 = .ok (.iload 6, 2) := by decide +kernel
theorem dL_isReport_199 : decode cL_isReport 199 = .ok (.iadd, 1) := by decide +kernel
theorem dL_isReport_200 : decode cL_isReport 200 = .ok (.if_icmp .ne 45, 3) := by decide +kernel
theorem dL_isReport_203 : decode cL_isReport 203 = .ok (.iload 5, 2) := by decide +kernel
theorem dL_isReport_205 : decode cL_isReport 205 = .ok (.iconst 1, 1) := by decide +kernel
theorem dL_isReport_206 : decode cL_isReport 206 = .ok (.if_icmp .eq 22, 3) := by decide +kernel
theorem dL_isReport_209 : decode cL_isReport 209 = .ok (.aload_n 0, 1) := by decide +kernel
theorem dL_isReport_210 : decode cL_isReport 210 = .ok (.iload 4, 2) := by decide +kernel
theorem dL_isReport_212 : decode cL_isReport 212 = .ok (.bipush 7, 2) := by decide +kernel
theorem dL_isReport_214 : decode cL_isReport 214 = .ok (.invokevirtual 89, 3) := by decide +kernel
theorem dL_isReport_217 : decode cL_isReport 217 = .ok (.aload_n 2, 1) := by decide +kernel
theorem dL_isReport_218 : decode cL_isReport 218 = .ok (.iconst 4, 1) := by decide +kernel
theorem dL_isReport_219 : decode cL_isReport 219 = .ok (.iload 5, 2) := by decide +kernel
theorem dL_isReport_221 : decode cL_isReport 221 = .ok (.imul, 1) := by decide +kernel
theorem dL_isReport_222 : decode cL_isReport 222 = .ok (.iconst 1, 1) := by decide +kernel
theorem dL_isReport_223 : decode cL_isReport 223 = .ok (.isub, 1) := by decide +kernel
theorem dL_isReport_224 : decode cL_isReport 224 = .ok (.iaload, 1) := by decide +kernel
theorem dL_isReport_225 : decode cL_isReport 225 = .ok (.if_icmp .ne 20, 3) := by decide +kernel
theorem dL_isReport_228 : decode cL_isReport 228 = .ok (.aload_n 0, 1) := by decide +kernel
theorem dL_isReport_229 : decode cL_isReport 229 = .ok (.iload 4, 2) := by decide +kernel
theorem dL_isReport_231 : decode cL_isReport 231 = .ok (.bipush 8, 2) := by decide +kernel
theorem dL_isReport_233 : decode cL_isReport 233 = .ok (.invokevirtual 89, 3) := by decide +kernel
theorem dL_isReport_236 : decode cL_isReport 236 = .ok (.ldc 39, 2) := by decide +kernel
theorem dL_isReport_238 : decode cL_isReport 238 = .ok (.if_icmp .ne 7, 3) := by decide +kernel
theorem dL_isReport_241 : decode cL_isReport 241 = .ok (.iconst 1, 1) := by decide +kernel
theorem dL_isReport_242 : decode cL_isReport 242 = .ok (.goto 4, 3) := by decide +kernel
theorem dL_isReport_245 : decode cL_isReport 245 = .ok (.iconst 0, 1) := by decide +kernel
theorem dL_isReport_246 : decode cL_isReport 246 = .ok (.istore 7, 2) := by decide +kernel
theorem dL_isReport_248 : decode cL_isReport 248 = .ok (.iload 7, 2) := by decide +kernel
theorem dL_isReport_250 : decode cL_isReport 250 = .ok (.ifCond .eq 65, 3) := by decide +kernel
theorem dL_isReport_253 : decode cL_isReport 253 = .ok (.aload_n 0, 1) := by decide +kernel
theorem dL_isReport_254 : decode cL_isReport 254 = .ok (.iload 4, 2) := by decide +kernel
theorem dL_isReport_256 : decode cL_isReport 256 = .ok (.iconst 3, 1) := by decide +kernel
theorem dL_isReport_257 : decode cL_isReport 257 = .ok (.invokevirtual 89, 3) := by decide +kernel
theorem dL_isReport_260 : decode cL_isReport 260 = .ok (.ldc 39, 2) := by decide +kernel
theorem dL_isReport_262 : decode cL_isReport 262 = .ok (.if_icmp .ne 7, 3) := by decide +kernel
theorem dL_isReport_265 : decode cL_isReport 265 = .ok (.iconst 1, 1) := by decide +kernel
theorem dL_isReport_266 : decode cL_isReport 266 = .ok (.goto 4, 3) := by decide +kernel
theorem dL_isReport_269 : decode cL_isReport 269 = .ok (.iconst 0, 1) := by decide +kernel
theorem dL_isReport_270 : decode cL_isReport 270 = .ok (.iload 5, 2) := by decide +kernel
theorem dL_isReport_272 : decode cL_isReport 272 = .ok (.iconst 1, 1) := by decide +kernel
theorem dL_isReport_273 : decode cL_isReport 273 = .ok (.if_icmp .le 7, 3) := by decide +kernel
theorem dL_isReport_276 : decode cL_isReport 276 = .ok (.iconst 1, 1) := by decide +kernel
theorem dL_isReport_277 : decode cL_isReport 277 = .ok (.goto 4, 3) := by decide +kernel
theorem dL_isReport_280 : decode cL_isReport 280 = .ok (.iconst 0, 1) := by decide +kernel
theorem dL_isReport_281 : decode cL_isReport 281 = .ok (.if_icmp .ne 34, 3) := by decide +kernel
theorem dL_isReport_284 : decode cL_isReport 284 = .ok (.aload_n 0, 1) := by decide +kernel
theorem dL_isReport_285 : decode cL_isReport 285 = .ok (.iload 4, 2) := by decide +kernel
theorem dL_isReport_287 : decode cL_isReport 287 = .ok (.iconst 1, 1) := by decide +kernel
theorem dL_isReport_288 : decode cL_isReport 288 = .ok (.invokevirtual 89, 3) := by decide +kernel
theorem dL_isReport_291 : decode cL_isReport 291 = .ok (.ldc 39, 2) := by decide +kernel
theorem dL_isReport_293 : decode cL_isReport 293 = .ok (.if_icmp .ne 7, 3) := by decide +kernel
theorem dL_isReport_296 : decode cL_isReport 296 = .ok (.iconst 1, 1) := by decide +kernel
theorem dL_isReport_297 : decode cL_isReport 297 = .ok (.goto 4, 3) := by decide +kernel
theorem dL_isReport_300 : decode cL_isReport 300 = .ok (.iconst 0, 1) := by decide +kernel
theorem dL_isReport_301 : decode cL_isReport 301 = .ok (.iload 5, 2) := by decide +kernel
theorem dL_isReport_303 : decode cL_isReport 303 = .ok (.iconst 3, 1) := by decide +kernel
theorem dL_isReport_304 : decode cL_isReport 304 = .ok (.if_icmp .le 7, 3) := by decide +kernel
theorem dL_isReport_307 : decode cL_isReport 307 = .ok (.iconst 1, 1) := by decide +kernel
theorem dL_isReport_308 : decode cL_isReport 308 = .ok (.goto 4, 3) := by decide +kernel
theorem dL_isReport_311 : decode cL_isReport 311 = .ok (.iconst 0, 1) := by decide +kernel
theorem dL_isReport_312 : decode cL_isReport 312 = .ok (.if_icmp .eq 5, 3) := by decide +kernel
theorem dL_isReport_315 : decode cL_isReport 315 = .ok (.iconst 0, 1) := by decide +kernel
theorem dL_isReport_316 : decode cL_isReport 316 = .ok (.ireturn, 1) := by decide +kernel
theorem dL_isReport_317 : decode cL_isReport 317 = .ok (.iconst 4, 1) := by decide +kernel
theorem dL_isReport_318 : decode cL_isReport 318 = .ok (.iload 5, 2) := by decide +kernel
theorem dL_isReport_320 : decode cL_isReport 320 = .ok (.imul, 1) := by decide +kernel
theorem dL_isReport_321 : decode cL_isReport 321 = .ok (.iconst 4, 1) := by decide +kernel
theorem dL_isReport_322 : decode cL_isReport 322 = .ok (.isub, 1) := by decide +kernel
theorem dL_isReport_323 : decode cL_isReport 323 = .ok (.istore 8, 2) := by decide +kernel
theorem dL_isReport_325 : decode cL_isReport 325 = .ok (.iload 8, 2) := by decide +kernel
theorem dL_isReport_327 : decode cL_isReport 327 = .ok (.iconst 4, 1) := by decide +kernel
theorem dL_isReport_328 : decode cL_isReport 328 = .ok (.iload 5, 2) := by decide +kernel
theorem dL_isReport_330 : decode cL_isReport 330 = .ok (.imul, 1) := by decide +kernel
theorem dL_isReport_331 : decode cL_isReport 331 = .ok (.if_icmp .ge 14, 3) := by decide +kernel
theorem dL_isReport_334 : decode cL_isReport 334 = .ok (.aload_n 2, 1) := by decide +kernel
theorem dL_isReport_335 : decode cL_isReport 335 = .ok (.iload 8, 2) := by decide +kernel
theorem dL_isReport_337 : decode cL_isReport 337 = .ok (.iconst 0, 1) := by decide +kernel
theorem dL_isReport_338 : decode cL_isReport 338 = .ok (.iastore, 1) := by decide +kernel
theorem dL_isReport_339 : decode cL_isReport 339 = .ok (.iinc 8 1, 3) := by decide +kernel
theorem dL_isReport_342 : decode cL_isReport 342 = .ok (.goto (-17), 3) := by decide +kernel
theorem dL_isReport_345 : decode cL_isReport 345 = .ok (.iconst 0, 1) := by decide +kernel
theorem dL_isReport_346 : decode cL_isReport 346 = .ok (.istore 6, 2) := by decide +kernel
theorem dL_isReport_348 : decode cL_isReport 348 = .ok (.iload 6, 2) := by decide +kernel
theorem dL_isReport_350 : decode cL_isReport 350 = .ok (.iconst 4, 1) := by decide +kernel
theorem dL_isReport_351 : decode cL_isReport 351 = .ok (.if_icmp .ge 38, 3) := by decide +kernel
theorem dL_isReport_354 : decode cL_isReport 354 = .ok (.aload_n 2, 1) := by decide +kernel
theorem dL_isReport_355 : decode cL_isReport 355 = .ok (.iconst 4, 1) := by decide +kernel
theorem dL_isReport_356 : decode cL_isReport 356 = .ok (.iload 5, 2) := by decide +kernel
theorem dL_isReport_358 : decode cL_isReport 358 = .ok (.imul, 1) := by decide +kernel
theorem dL_isReport_359 : decode cL_isReport 359 = .ok (.iload 6, 2) := by decide +kernel
theorem dL_isReport_361 : decode cL_isReport 361 = .ok (.iadd, 1) := by decide +kernel
theorem dL_isReport_362 : decode cL_isReport 362 = .ok (.aload_n 2, 1) := by decide +kernel
theorem dL_isReport_363 : decode cL_isReport 363 = .ok (.iconst 4, 1) := by decide +kernel
theorem dL_isReport_364 : decode cL_isReport 364 = .ok (.iload 5, 2) := by decide +kernel
theorem dL_isReport_366 : decode cL_isReport 366 = .ok (.imul, 1) := by decide +kernel
theorem dL_isReport_367 : decode cL_isReport 367 = .ok (.iload 6, 2) := by decide +kernel
theorem dL_isReport_369 : decode cL_isReport 369 = .ok (.iadd, 1) := by decide +kernel
theorem dL_isReport_370 : decode cL_isReport 370 = .ok (.iaload, 1) := by decide +kernel
theorem dL_isReport_371 : decode cL_isReport 371 = .ok (.aload_n 0, 1) := by decide +kernel
theorem dL_isReport_372 : decode cL_isReport 372 = .ok (.iload 4, 2) := by decide +kernel
theorem dL_isReport_374 : decode cL_isReport 374 = .ok (.iconst 4, 1) := by decide +kernel
theorem dL_isReport_375 : decode cL_isReport 375 = .ok (.iload 6, 2) := by decide +kernel
theorem dL_isReport_377 : decode cL_isReport 377 = .ok (.iadd, 1) := by decide +kernel
theorem dL_isReport_378 : decode cL_isReport 378 = .ok (.invokevirtual 89, 3) := by decide +kernel
theorem dL_isReport_381 : decode cL_isReport 381 = .ok (.iadd, 1) := by decide +kernel
theorem dL_isReport_382 : decode cL_isReport 382 = .ok (.iastore, 1) := by decide +kernel
theorem dL_isReport_383 : decode cL_isReport 383 = .ok (.iinc 6 1, 3) := by decide +kernel
theorem dL_isReport_386 : decode cL_isReport 386 = .ok (.goto (-38), 3) := by decide +kernel
theorem dL_isReport_389 : decode cL_isReport 389 = .ok (.iinc 4 1, 3) := by decide +kernel
theorem dL_isReport_392 : decode cL_isReport 392 = .ok (.goto (-330), 3) := by decide +kernel
theorem dL_isReport_395 : decode cL_isReport 395 = .ok (.iload_n 1, 1) := by decide +kernel
theorem dL_isReport_396 : decode cL_isReport 396 = .ok (.iconst 1, 1) := by decide +kernel
theorem dL_isReport_397 : decode cL_isReport 397 = .ok (.isub, 1) := by decide +kernel
theorem dL_isReport_398 : decode cL_isReport 398 = .ok (.istore 4, 2) := by decide +kernel
theorem dL_isReport_400 : decode cL_isReport 400 = .ok (.iload_n 3, 1) := by decide +kernel
theorem dL_isReport_401 : decode cL_isReport 401 = .ok (.aload_n 0, 1) := by decide +kernel
theorem dL_isReport_402 : decode cL_isReport 402 = .ok (.iconst 2, 1) := by decide +kernel
theorem dL_isReport_403 : decode cL_isReport 403 = .ok (.invokevirtual 29, 3) := by decide +kernel
theorem dL_isReport_406 : decode cL_isReport 406 = .ok (.if_icmp .ne 86, 3) := by decide +kernel
theorem dL_isReport_409 : decode cL_isReport 409 = .ok (.aload_n 0, 1) := by decide +kernel
theorem dL_isReport_410 : decode cL_isReport 410 = .ok (.iload 4, 2) := by decide +kernel
theorem dL_isReport_412 : decode cL_isReport 412 = .ok (.iconst 0, 1) := by decide +kernel
theorem dL_isReport_413 : decode cL_isReport 413 = .ok (.invokevirtual 89, 3) := by decide +kernel
theorem dL_isReport_416 : decode cL_isReport 416 = .ok (.iconst 4, 1) := by decide +kernel
theorem dL_isReport_417 : decode cL_isReport 417 = .ok (.if_icmp .ne 75, 3) := by decide +kernel
theorem dL_isReport_420 : decode cL_isReport 420 = .ok (.aload_n 0, 1) := by decide +kernel
theorem dL_isReport_421 : decode cL_isReport 421 = .ok (.iload 4, 2) := by decide +kernel
theorem dL_isReport_423 : decode cL_isReport 423 = .ok (.iconst 4, 1) := by decide +kernel
theorem dL_isReport_424 : decode cL_isReport 424 = .ok (.invokevirtual 89, 3) := by decide +kernel
theorem dL_isReport_427 : decode cL_isReport 427 = .ok (.iload_n 3, 1) := by decide +kernel
theorem dL_isReport_428 : decode cL_isReport 428 = .ok (.if_icmp .ne 64, 3) := by decide +kernel
theorem dL_isReport_431 : decode cL_isReport 431 = .ok (.aload_n 2, 1) := by decide +kernel
theorem dL_isReport_432 : decode cL_isReport 432 = .ok (.iconst 0, 1) := by decide +kernel
theorem dL_isReport_433 : decode cL_isReport 433 = .ok (.iaload, 1) := by decide +kernel
theorem dL_isReport_434 : decode cL_isReport 434 = .ok (.aload_n 2, 1) := by decide +kernel
theorem dL_isReport_435 : decode cL_isReport 435 = .ok (.iconst 4, 1) := by decide +kernel
theorem dL_isReport_436 : decode cL_isReport 436 = .ok (.iaload, 1) := by decide +kernel
theorem dL_isReport_437 : decode cL_isReport 437 = .ok (.iadd, 1) := by decide +kernel
theorem dL_isReport_438 : decode cL_isReport 438 = .ok (.aload_n 2, 1) := by decide +kernel
theorem dL_isReport_439 : decode cL_isReport 439 = .ok (.bipush 8, 2) := by decide +kernel
theorem dL_isReport_441 : decode cL_isReport 441 = .ok (.iaload, 1) := by decide +kernel
theorem dL_isReport_442 : decode cL_isReport 442 = .ok (.iadd, 1) := by decide +kernel
theorem dL_isReport_443 : decode cL_isReport 443 = .ok (.aload_n 2, 1) := by decide +kernel
theorem dL_isReport_444 : decode cL_isReport 444 = .ok (.bipush 12, 2) := by decide +kernel
theorem dL_isReport_446 : decode cL_isReport 446 = .ok (.iaload, 1) := by decide +kernel
theorem dL_isReport_447 : decode cL_isReport 447 = .ok (.iadd, 1) := by decide +kernel
theorem dL_isReport_448 : decode cL_isReport 448 = .ok (.ifCond .ne 44, 3) := by decide +kernel
theorem dL_isReport_451 : decode cL_isReport 451 = .ok (.aload_n 0, 1) := by decide +kernel
theorem dL_isReport_452 : decode cL_isReport 452 = .ok (.iconst (-1), 1) := by decide +kernel
theorem dL_isReport_453 : decode cL_isReport 453 = .ok (.iconst 0, 1) := by decide +kernel
theorem dL_isReport_454 : decode cL_isReport 454 = .ok (.invokevirtual 86, 3) := by decide +kernel
theorem dL_isReport_457 : decode cL_isReport 457 = .ok (.iload_n 3, 1) := by decide +kernel
theorem dL_isReport_458 : decode cL_isReport 458 = .ok (.if_icmp .ne 34, 3) := by decide +kernel
theorem dL_isReport_461 : decode cL_isReport 461 = .ok (.aload_n 0, 1) := by decide +kernel
theorem dL_isReport_462 : decode cL_isReport 462 = .ok (.iconst (-1), 1) := by decide +kernel
theorem dL_isReport_463 : decode cL_isReport 463 = .ok (.iconst 1, 1) := by decide +kernel
theorem dL_isReport_464 : decode cL_isReport 464 = .ok (.invokevirtual 86, 3) := by decide +kernel
theorem dL_isReport_467 : decode cL_isReport 467 = .ok (.aload_n 0, 1) := by decide +kernel
theorem dL_isReport_468 : decode cL_isReport 468 = .ok (.iload 4, 2) := by decide +kernel
theorem dL_isReport_470 : decode cL_isReport 470 = .ok (.iconst 5, 1) := by decide +kernel
theorem dL_isReport_471 : decode cL_isReport 471 = .ok (.invokevirtual 89, 3) := by decide +kernel
theorem dL_isReport_474 : decode cL_isReport 474 = .ok (.if_icmp .ne 18, 3) := by decide +kernel
theorem dL_isReport_477 : decode cL_isReport 477 = .ok (.aload_n 0, 1) := by decide +kernel
theorem dL_isReport_478 : decode cL_isReport 478 = .ok (.iload_n 1, 1) := by decide +kernel
theorem dL_isReport_479 : decode cL_isReport 479 = .ok (.iconst 0, 1) := by decide +kernel
theorem dL_isReport_480 : decode cL_isReport 480 = .ok (.invokevirtual 89, 3) := by decide +kernel
theorem dL_isReport_483 : decode cL_isReport 483 = .ok (.ldc 95, 2) := by decide +kernel
theorem dL_isReport_485 : decode cL_isReport 485 = .ok (.if_icmp .ne 7, 3) := by decide +kernel
theorem dL_isReport_488 : decode cL_isReport 488 = .ok (.iconst 1, 1) := by decide +kernel
theorem dL_isReport_489 : decode cL_isReport 489 = .ok (.goto 4, 3) := by decide +kernel
theorem dL_isReport_492 : decode cL_isReport 492 = .ok (.iconst 0, 1) := by decide +kernel
theorem dL_isReport_493 : decode cL_isReport 493 = .ok (.ireturn, 1) := by decide +kernel
theorem dL_isAgain_0 : decode cL_isAgain 0 = .ok (.iconst 0, 1) := by decide +kernel
theorem dL_isAgain_1 : decode cL_isAgain 1 = .ok (.istore_n 1, 1) := by decide +kernel
theorem dL_isAgain_2 : decode cL_isAgain 2 = .ok (.iconst 0, 1) := by decide +kernel
theorem dL_isAgain_3 : decode cL_isAgain 3 = .ok (.istore_n 2, 1) := by decide +kernel
theorem dL_isAgain_4 : decode cL_isAgain 4 = .ok (.iconst 0, 1) := by decide +kernel
theorem dL_isAgain_5 : decode cL_isAgain 5 = .ok (.istore_n 3, 1) := by decide +kernel
theorem dL_isAgain_6 : decode cL_isAgain 6 = .ok (.aload_n 0, 1) := by decide +kernel
theorem dL_isAgain_7 : decode cL_isAgain 7 = .ok (.iload_n 3, 1) := by decide +kernel
theorem dL_isAgain_8 : decode cL_isAgain 8 = .ok (.iconst 0, 1) := by decide +kernel
theorem dL_isAgain_9 : decode cL_isAgain 9 = .ok (.invokevirtual 96, 3) := by decide +kernel
theorem dL_isAgain_12 : decode cL_isAgain 12 = .ok (.ldc 39, 2) := by decide +kernel
theorem dL_isAgain_14 : decode cL_isAgain 14 = .ok (.if_icmp .eq 38, 3) := by decide +kernel
theorem dL_isAgain_17 : decode cL_isAgain 17 = .ok (.aload_n 0, 1) := by decide +kernel
theorem dL_isAgain_18 : decode cL_isAgain 18 = .ok (.iload_n 3, 1) := by decide +kernel
theorem dL_isAgain_19 : decode cL_isAgain 19 = .ok (.iconst 3, 1) := by decide +kernel
theorem dL_isAgain_20 : decode cL_isAgain 20 = .ok (.invokevirtual 96, 3) := by decide +kernel
theorem dL_isAgain_23 : decode cL_isAgain 23 = .ok (.istore 4, 2) := by decide +kernel
theorem dL_isAgain_25 : decode cL_isAgain 25 = .ok (.iload_n 1, 1) := by decide +kernel
theorem dL_isAgain_26 : decode cL_isAgain 26 = .ok (.iload 4, 2) := by decide +kernel
theorem dL_isAgain_28 : decode cL_isAgain 28 = .ok (.iadd, 1) := by decide +kernel
theorem dL_isAgain_29 : decode cL_isAgain 29 = .ok (.istore_n 1, 1) := by decide +kernel
theorem dL_isAgain_30 : decode cL_isAgain 30 = .ok (.iload_n 3, 1) := by decide +kernel
theorem dL_isAgain_31 : decode cL_isAgain 31 = .ok (.ifCond .le 11, 3) := by decide +kernel
theorem dL_isAgain_34 : decode cL_isAgain 34 = .ok (.iload 4, 2) := by decide +kernel
theorem dL_isAgain_36 : decode cL_isAgain 36 = .ok (.iload_n 2, 1) := by decide +kernel
theorem dL_isAgain_37 : decode cL_isAgain 37 = .ok (.if_icmp .le 5, 3) := by decide +kernel
theorem dL_isAgain_40 : decode cL_isAgain 40 = .ok (.iconst 0, 1) := by decide +kernel
theorem dL_isAgain_41 : decode cL_isAgain 41 = .ok (.ireturn, 1) := by decide +kernel
theorem dL_isAgain_42 : decode cL_isAgain 42 = .ok (.iload 4, 2) := by decide +kernel
theorem dL_isAgain_44 : decode cL_isAgain 44 = .ok (.istore_n 2, 1) := by decide +kernel
theorem dL_isAgain_45 : decode cL_isAgain 45 = .ok (.iload_n 3, 1) := by decide +kernel
theorem dL_isAgain_46 : decode cL_isAgain 46 = .ok (.iconst 1, 1) := by decide +kernel
theorem dL_isAgain_47 : decode cL_isAgain 47 = .ok (.iadd, 1) := by decide +kernel
theorem dL_isAgain_48 : decode cL_isAgain 48 = .ok (.istore_n 3, 1) := by decide +kernel
theorem dL_isAgain_49 : decode cL_isAgain 49 = .ok (.goto (-43), 3) := by decide +kernel
theorem dL_isAgain_52 : decode cL_isAgain 52 = .ok (.iconst 0, 1) := by decide +kernel
theorem dL_isAgain_53 : decode cL_isAgain 53 = .ok (.istore 4, 2) := by decide +kernel
theorem dL_isAgain_55 : decode cL_isAgain 55 = .ok (.iconst 0, 1) := by decide +kernel
theorem dL_isAgain_56 : decode cL_isAgain 56 = .ok (.istore 5, 2) := by decide +kernel
theorem dL_isAgain_58 : decode cL_isAgain 58 = .ok (.iload 5, 2) := by decide +kernel
theorem dL_isAgain_60 : decode cL_isAgain 60 = .ok (.sipush 1000, 3) := by decide +kernel
theorem dL_isAgain_63 : decode cL_isAgain 63 = .ok (.if_icmp .ge 32, 3) := by decide +kernel
theorem dL_isAgain_66 : decode cL_isAgain 66 = .ok (.iload 4, 2) := by decide +kernel
theorem dL_isAgain_68 : decode cL_isAgain 68 = .ok (.aload_n 0, 1) := by decide +kernel
theorem dL_isAgain_69 : decode cL_isAgain 69 = .ok (.iconst (-1), 1) := by decide +kernel
theorem dL_isAgain_70 : decode cL_isAgain 70 = .ok (.iconst 0, 1) := by decide +kernel
theorem dL_isAgain_71 : decode cL_isAgain 71 = .ok (.invokevirtual 86, 3) := by decide +kernel
theorem dL_isAgain_74 : decode cL_isAgain 74 = .ok (.if_icmp .ge 21, 3) := by decide +kernel
theorem dL_isAgain_77 : decode cL_isAgain 77 = .ok (.iload 4, 2) := by decide +kernel
theorem dL_isAgain_79 : decode cL_isAgain 79 = .ok (.aload_n 0, 1) := by decide +kernel
theorem dL_isAgain_80 : decode cL_isAgain 80 = .ok (.iload 5, 2) := by decide +kernel
theorem dL_isAgain_82 : decode cL_isAgain 82 = .ok (.iconst 0, 1) := by decide +kernel
theorem dL_isAgain_83 : decode cL_isAgain 83 = .ok (.invokevirtual 86, 3) := by decide +kernel
theorem dL_isAgain_86 : decode cL_isAgain 86 = .ok (.iadd, 1) := by decide +kernel
theorem dL_isAgain_87 : decode cL_isAgain 87 = .ok (.istore 4, 2) := by decide +kernel
theorem dL_isAgain_89 : decode cL_isAgain 89 = .ok (.iinc 5 1, 3) := by decide +kernel
theorem dL_isAgain_92 : decode cL_isAgain 92 = .ok (.goto (-34), 3) := by decide +kernel
theorem dL_isAgain_95 : decode cL_isAgain 95 = .ok (.aload_n 0, 1) := by decide +kernel
theorem dL_isAgain_96 : decode cL_isAgain 96 = .ok (.iconst 1, 1) := by decide +kernel
theorem dL_isAgain_97 : decode cL_isAgain 97 = .ok (.invokevirtual 29, 3) := by decide +kernel
theorem dL_isAgain_100 : decode cL_isAgain 100 = .ok (.istore 5, 2) := by decide +kernel
theorem dL_isAgain_102 : decode cL_isAgain 102 = .ok (.iload_n 3, 1) := by decide +kernel
theorem dL_isAgain_103 : decode cL_isAgain 103 = .ok (.aload_n 0, 1) := by decide +kernel
theorem dL_isAgain_104 : decode cL_isAgain 104 = .ok (.iconst (-1), 1) := by decide +kernel
theorem dL_isAgain_105 : decode cL_isAgain 105 = .ok (.iconst 4, 1) := by decide +kernel
theorem dL_isAgain_106 : decode cL_isAgain 106 = .ok (.invokevirtual 86, 3) := by decide +kernel
theorem dL_isAgain_109 : decode cL_isAgain 109 = .ok (.if_icmp .ne 38, 3) := by decide +kernel
theorem dL_isAgain_112 : decode cL_isAgain 112 = .ok (.iload_n 1, 1) := by decide +kernel
theorem dL_isAgain_113 : decode cL_isAgain 113 = .ok (.aload_n 0, 1) := by decide +kernel
theorem dL_isAgain_114 : decode cL_isAgain 114 = .ok (.iconst (-1), 1) := by decide +kernel
theorem dL_isAgain_115 : decode cL_isAgain 115 = .ok (.iconst 2, 1) := by decide +kernel
theorem dL_isAgain_116 : decode cL_isAgain 116 = .ok (.invokevirtual 86, 3) := by decide +kernel
theorem dL_isAgain_119 : decode cL_isAgain 119 = .ok (.if_icmp .ne 28, 3) := by decide +kernel
theorem dL_isAgain_122 : decode cL_isAgain 122 = .ok (.iload 4, 2) := by decide +kernel
theorem dL_isAgain_124 : decode cL_isAgain 124 = .ok (.aload_n 0, 1) := by decide +kernel
theorem dL_isAgain_125 : decode cL_isAgain 125 = .ok (.iconst (-1), 1) := by decide +kernel
theorem dL_isAgain_126 : decode cL_isAgain 126 = .ok (.iconst 0, 1) := by decide +kernel
theorem dL_isAgain_127 : decode cL_isAgain 127 = .ok (.invokevirtual 86, 3) := by decide +kernel
theorem dL_isAgain_130 : decode cL_isAgain 130 = .ok (.if_icmp .gt 17, 3) := by decide +kernel
theorem dL_isAgain_133 : decode cL_isAgain 133 = .ok (.aload_n 0, 1) := by decide +kernel
theorem dL_isAgain_134 : decode cL_isAgain 134 = .ok (.iconst (-1), 1) := by decide +kernel
theorem dL_isAgain_135 : decode cL_isAgain 135 = .ok (.iconst 3, 1) := by decide +kernel
theorem dL_isAgain_136 : decode cL_isAgain 136 = .ok (.invokevirtual 86, 3) := by decide +kernel
theorem dL_isAgain_139 : decode cL_isAgain 139 = .ok (.iload_n 1, 1) := by decide +kernel
theorem dL_isAgain_140 : decode cL_isAgain 140 = .ok (.if_icmp .gt 7, 3) := by decide +kernel
theorem dL_isAgain_143 : decode cL_isAgain 143 = .ok (.iconst 1, 1) := by decide +kernel
theorem dL_isAgain_144 : decode cL_isAgain 144 = .ok (.goto 4, 3) := by decide +kernel
theorem dL_isAgain_147 : decode cL_isAgain 147 = .ok (.iconst 0, 1) := by decide +kernel
theorem dL_isAgain_148 : decode cL_isAgain 148 = .ok (.istore 6, 2) := by decide +kernel
theorem dL_isAgain_150 : decode cL_isAgain 150 = .ok (.iconst 0, 1) := by decide +kernel
theorem dL_isAgain_151 : decode cL_isAgain 151 = .ok (.istore 7, 2) := by decide +kernel
theorem dL_isAgain_153 : decode cL_isAgain 153 = .ok (.iload 7, 2) := by decide +kernel
theorem dL_isAgain_155 : decode cL_isAgain 155 = .ok (.iconst 2, 1) := by decide +kernel
theorem dL_isAgain_156 : decode cL_isAgain 156 = .ok (.if_icmp .ge 93, 3) := by decide +kernel
theorem dL_isAgain_159 : decode cL_isAgain 159 = .ok (.iload 5, 2) := by decide +kernel
theorem dL_isAgain_161 : decode cL_isAgain 161 = .ok (.ifCond .le 88, 3) := by decide +kernel
theorem dL_isAgain_164 : decode cL_isAgain 164 = .ok (.aload_n 0, 1) := by decide +kernel
theorem dL_isAgain_165 : decode cL_isAgain 165 = .ok (.iload 7, 2) := by decide +kernel
theorem dL_isAgain_167 : decode cL_isAgain 167 = .ok (.invokevirtual 99, 3) := by decide +kernel
theorem dL_isAgain_170 : decode cL_isAgain 170 = .ok (.istore 8, 2) := by decide +kernel
theorem dL_isAgain_172 : decode cL_isAgain 172 = .ok (.iload 6, 2) := by decide +kernel
theorem dL_isAgain_174 : decode cL_isAgain 174 = .ok (.ifCond .eq 66, 3) := by decide +kernel
theorem dL_isAgain_177 : decode cL_isAgain 177 = .ok (.iload 8, 2) := by decide +kernel
theorem dL_isAgain_179 : decode cL_isAgain 179 = .ok (.ldc 39, 2) := by decide +kernel
theorem dL_isAgain_181 : decode cL_isAgain 181 = .ok (.if_icmp .eq 55, 3) := by decide +kernel
theorem dL_isAgain_184 : decode cL_isAgain 184 = .ok (.aload_n 0, 1) := by decide +kernel
theorem dL_isAgain_185 : decode cL_isAgain 185 = .ok (.iload 7, 2) := by decide +kernel
theorem dL_isAgain_187 : decode cL_isAgain 187 = .ok (.aload_n 0, 1) := by decide +kernel
theorem dL_isAgain_188 : decode cL_isAgain 188 = .ok (.iload 5, 2) := by decide +kernel
theorem dL_isAgain_190 : decode cL_isAgain 190 = .ok (.iconst 1, 1) := by decide +kernel
theorem dL_isAgain_191 : decode cL_isAgain 191 = .ok (.isub, 1) := by decide +kernel
theorem dL_isAgain_192 : decode cL_isAgain 192 = .ok (.iconst 4, 1) := by decide +kernel
theorem dL_isAgain_193 : decode cL_isAgain 193 = .ok (.iload 7, 2) := by decide +kernel
theorem dL_isAgain_195 : decode cL_isAgain 195 = .ok (.iadd, 1) := by decide +kernel
theorem dL_isAgain_196 : decode cL_isAgain 196 = .ok (.invokevirtual 89, 3) := by decide +kernel
theorem dL_isAgain_199 : decode cL_isAgain 199 = .ok (.invokevirtual 40, 3) := by decide +kernel
theorem dL_isAgain_202 : decode cL_isAgain 202 = .ok (.aload_n 0, 1) := by decide +kernel
theorem dL_isAgain_203 : decode cL_isAgain 203 = .ok (.iload 5, 2) := by decide +kernel
theorem dL_isAgain_205 : decode cL_isAgain 205 = .ok (.iconst 1, 1) := by decide +kernel
theorem dL_isAgain_206 : decode cL_isAgain 206 = .ok (.isub, 1) := by decide +kernel
theorem dL_isAgain_207 : decode cL_isAgain 207 = .ok (.iconst 4, 1) := by decide +kernel
theorem dL_isAgain_208 : decode cL_isAgain 208 = .ok (.iload 7, 2) := by decide +kernel
theorem dL_isAgain_210 : decode cL_isAgain 210 = .ok (.iadd, 1) := by decide +kernel
theorem dL_isAgain_211 : decode cL_isAgain 211 = .ok (.invokevirtual 89, 3) := by decide +kernel
theorem dL_isAgain_214 : decode cL_isAgain 214 = .ok (.iload 8, 2) := by decide +kernel
theorem dL_isAgain_216 : decode cL_isAgain 216 = .ok (.isub, 1) := by decide +kernel
theorem dL_isAgain_217 : decode cL_isAgain 217 = .ok (.if_icmp .ne 23, 3) := by decide +kernel
theorem dL_isAgain_220 : decode cL_isAgain 220 = .ok (.aload_n 0, 1) := by decide +kernel
theorem dL_isAgain_221 : decode cL_isAgain 221 = .ok (.iload 7, 2) := by decide +kernel
theorem dL_isAgain_223 : decode cL_isAgain 223 = .ok (.invokevirtual 99, 3) := by decide +kernel
theorem dL_isAgain_226 : decode cL_isAgain 226 = .ok (.ifCond .ne 14, 3) := by decide +kernel
theorem dL_isAgain_229 : decode cL_isAgain 229 = .ok (.aload_n 0, 1) := by decide +kernel
theorem dL_isAgain_230 : decode cL_isAgain 230 = .ok (.invokevirtual 64, 3) := by decide +kernel
theorem dL_isAgain_233 : decode cL_isAgain 233 = .ok (.ifCond .lt 7, 3) := by decide +kernel
theorem dL_isAgain_236 : decode cL_isAgain 236 = .ok (.iconst 1, 1) := by decide +kernel
theorem dL_isAgain_237 : decode cL_isAgain 237 = .ok (.goto 4, 3) := by decide +kernel
theorem dL_isAgain_240 : decode cL_isAgain 240 = .ok (.iconst 0, 1) := by decide +kernel
theorem dL_isAgain_241 : decode cL_isAgain 241 = .ok (.istore 6, 2) := by decide +kernel
theorem dL_isAgain_243 : decode cL_isAgain 243 = .ok (.iinc 7 1, 3) := by decide +kernel
theorem dL_isAgain_246 : decode cL_isAgain 246 = .ok (.goto (-93), 3) := by decide +kernel
theorem dL_isAgain_249 : decode cL_isAgain 249 = .ok (.iload 6, 2) := by decide +kernel
theorem dL_isAgain_251 : decode cL_isAgain 251 = .ok (.ireturn, 1) := by decide +kernel
theorem dL_isSorted_0 : decode cL_isSorted 0 = .ok (.aload_n 0, 1) := by decide +kernel
theorem dL_isSorted_1 : decode cL_isSorted 1 = .ok (.invokevirtual 102, 3) := by decide +kernel
theorem dL_isSorted_4 : decode cL_isSorted 4 = .ok (.istore_n 1, 1) := by decide +kernel
theorem dL_isSorted_5 : decode cL_isSorted 5 = .ok (.aload_n 0, 1) := by decide +kernel
theorem dL_isSorted_6 : decode cL_isSorted 6 = .ok (.iconst 2, 1) := by decide +kernel
theorem dL_isSorted_7 : decode cL_isSorted 7 = .ok (.invokevirtual 58, 3) := by decide +kernel
theorem dL_isSorted_10 : decode cL_isSorted 10 = .ok (.aload_n 0, 1) := by decide +kernel
theorem dL_isSorted_11 : decode cL_isSorted 11 = .ok (.iconst 1, 1) := by decide +kernel
theorem dL_isSorted_12 : decode cL_isSorted 12 = .ok (.invokevirtual 58, 3) := by decide +kernel
theorem dL_isSorted_15 : decode cL_isSorted 15 = .ok (.iadd, 1) := by decide +kernel
theorem dL_isSorted_16 : decode cL_isSorted 16 = .ok (.aload_n 0, 1) := by decide +kernel
theorem dL_isSorted_17 : decode cL_isSorted 17 = .ok (.iconst 0, 1) := by decide +kernel
theorem dL_isSorted_18 : decode cL_isSorted 18 = .ok (.invokevirtual 58, 3) := by decide +kernel
theorem dL_isSorted_21 : decode cL_isSorted 21 = .ok (.iadd, 1) := by decide +kernel
theorem dL_isSorted_22 : decode cL_isSorted 22 = .ok (.istore_n 2, 1) := by decide +kernel
theorem dL_isSorted_23 : decode cL_isSorted 23 = .ok (.aload_n 0, 1) := by decide +kernel
theorem dL_isSorted_24 : decode cL_isSorted 24 = .ok (.iconst 4, 1) := by decide +kernel
theorem dL_isSorted_25 : decode cL_isSorted 25 = .ok (.invokevirtual 29, 3) := by decide +kernel
theorem dL_isSorted_28 : decode cL_isSorted 28 = .ok (.iconst 1, 1) := by decide +kernel
theorem dL_isSorted_29 : decode cL_isSorted 29 = .ok (.if_icmp .ne 7, 3) := by decide +kernel
theorem dL_isSorted_32 : decode cL_isSorted 32 = .ok (.iconst 1, 1) := by decide +kernel
theorem dL_isSorted_33 : decode cL_isSorted 33 = .ok (.goto 4, 3) := by decide +kernel
theorem dL_isSorted_36 : decode cL_isSorted 36 = .ok (.iconst 0, 1) := by decide +kernel
theorem dL_isSorted_37 : decode cL_isSorted 37 = .ok (.istore_n 3, 1) := by decide +kernel
theorem dL_isSorted_38 : decode cL_isSorted 38 = .ok (.iload_n 1, 1) := by decide +kernel
theorem dL_isSorted_39 : decode cL_isSorted 39 = .ok (.ifCond .ge 7, 3) := by decide +kernel
theorem dL_isSorted_42 : decode cL_isSorted 42 = .ok (.iload_n 3, 1) := by decide +kernel
theorem dL_isSorted_43 : decode cL_isSorted 43 = .ok (.ifCond .ne 11, 3) := by decide +kernel
theorem dL_isSorted_46 : decode cL_isSorted 46 = .ok (.iload_n 2, 1) := by decide +kernel
theorem dL_isSorted_47 : decode cL_isSorted 47 = .ok (.ifCond .lt 7, 3) := by decide +kernel
theorem dL_isSorted_50 : decode cL_isSorted 50 = .ok (.iconst 1, 1) := by decide +kernel
theorem dL_isSorted_51 : decode cL_isSorted 51 = .ok (.goto 4, 3) := by decide +kernel
theorem dL_isSorted_54 : decode cL_isSorted 54 = .ok (.iconst 0, 1) := by decide +kernel
theorem dL_isSorted_55 : decode cL_isSorted 55 = .ok (.istore 4, 2) := by decide +kernel
theorem dL_isSorted_57 : decode cL_isSorted 57 = .ok (.aload_n 0, 1) := by decide +kernel
theorem dL_isSorted_58 : decode cL_isSorted 58 = .ok (.invokevirtual 64, 3) := by decide +kernel
theorem dL_isSorted_61 : decode cL_isSorted 61 = .ok (.ifCond .lt 52, 3) := by decide +kernel
theorem dL_isSorted_64 : decode cL_isSorted 64 = .ok (.aload_n 0, 1) := by decide +kernel
theorem dL_isSorted_65 : decode cL_isSorted 65 = .ok (.invokevirtual 64, 3) := by decide +kernel
theorem dL_isSorted_68 : decode cL_isSorted 68 = .ok (.ifCond .lt 45, 3) := by decide +kernel
theorem dL_isSorted_71 : decode cL_isSorted 71 = .ok (.aload_n 0, 1) := by decide +kernel
theorem dL_isSorted_72 : decode cL_isSorted 72 = .ok (.invokevirtual 64, 3) := by decide +kernel
theorem dL_isSorted_75 : decode cL_isSorted 75 = .ok (.ifCond .lt 38, 3) := by decide +kernel
theorem dL_isSorted_78 : decode cL_isSorted 78 = .ok (.iload 4, 2) := by decide +kernel
theorem dL_isSorted_80 : decode cL_isSorted 80 = .ok (.ifCond .eq 33, 3) := by decide +kernel
theorem dL_isSorted_83 : decode cL_isSorted 83 = .ok (.iload_n 1, 1) := by decide +kernel
theorem dL_isSorted_84 : decode cL_isSorted 84 = .ok (.ifCond .ne 7, 3) := by decide +kernel
theorem dL_isSorted_87 : decode cL_isSorted 87 = .ok (.iconst 1, 1) := by decide +kernel
theorem dL_isSorted_88 : decode cL_isSorted 88 = .ok (.goto 4, 3) := by decide +kernel
theorem dL_isSorted_91 : decode cL_isSorted 91 = .ok (.iconst 0, 1) := by decide +kernel
theorem dL_isSorted_92 : decode cL_isSorted 92 = .ok (.aload_n 0, 1) := by decide +kernel
theorem dL_isSorted_93 : decode cL_isSorted 93 = .ok (.iconst 4, 1) := by decide +kernel
theorem dL_isSorted_94 : decode cL_isSorted 94 = .ok (.invokevirtual 29, 3) := by decide +kernel
theorem dL_isSorted_97 : decode cL_isSorted 97 = .ok (.iconst 1, 1) := by decide +kernel
theorem dL_isSorted_98 : decode cL_isSorted 98 = .ok (.if_icmp .ne 7, 3) := by decide +kernel
theorem dL_isSorted_101 : decode cL_isSorted 101 = .ok (.iconst 1, 1) := by decide +kernel
theorem dL_isSorted_102 : decode cL_isSorted 102 = .ok (.goto 4, 3) := by decide +kernel
theorem dL_isSorted_105 : decode cL_isSorted 105 = .ok (.iconst 0, 1) := by decide +kernel
theorem dL_isSorted_106 : decode cL_isSorted 106 = .ok (.if_icmp .ne 7, 3) := by decide +kernel
theorem dL_isSorted_109 : decode cL_isSorted 109 = .ok (.iconst 1, 1) := by decide +kernel
theorem dL_isSorted_110 : decode cL_isSorted 110 = .ok (.goto 4, 3) := by decide +kernel
theorem dL_isSorted_113 : decode cL_isSorted 113 = .ok (.iconst 0, 1) := by decide +kernel
theorem dL_isSorted_114 : decode cL_isSorted 114 = .ok (.ireturn, 1) := by decide +kernel
theorem dL_isAccepted_0 : decode cL_isAccepted 0 = .ok (.aload_n 0, 1) := by decide +kernel
theorem dL_isAccepted_1 : decode cL_isAccepted 1 = .ok (.iload_n 1, 1) := by decide +kernel
theorem dL_isAccepted_2 : decode cL_isAccepted 2 = .ok (.invokevirtual 105, 3) := by decide +kernel
theorem dL_isAccepted_5 : decode cL_isAccepted 5 = .ok (.istore_n 2, 1) := by decide +kernel
theorem dL_isAccepted_6 : decode cL_isAccepted 6 = .ok (.aload_n 0, 1) := by decide +kernel
theorem dL_isAccepted_7 : decode cL_isAccepted 7 = .ok (.iconst 0, 1) := by decide +kernel
theorem dL_isAccepted_8 : decode cL_isAccepted 8 = .ok (.invokevirtual 105, 3) := by decide +kernel
theorem dL_isAccepted_11 : decode cL_isAccepted 11 = .ok (.istore_n 3, 1) := by decide +kernel
theorem dL_isAccepted_12 : decode cL_isAccepted 12 = .ok (.aload_n 0, 1) := by decide +kernel
theorem dL_isAccepted_13 : decode cL_isAccepted 13 = .ok (.iconst 0, 1) := by decide +kernel
theorem dL_isAccepted_14 : decode cL_isAccepted 14 = .ok (.iload_n 1, 1) := by decide +kernel
theorem dL_isAccepted_15 : decode cL_isAccepted 15 = .ok (.invokevirtual 36, 3) := by decide +kernel
theorem dL_isAccepted_18 : decode cL_isAccepted 18 = .ok (.istore 4, 2) := by decide +kernel
theorem dL_isAccepted_20 : decode cL_isAccepted 20 = .ok (.aload_n 0, 1) := by decide +kernel
theorem dL_isAccepted_21 : decode cL_isAccepted 21 = .ok (.invokevirtual 61, 3) := by decide +kernel
theorem dL_isAccepted_24 : decode cL_isAccepted 24 = .ok (.istore 5, 2) := by decide +kernel
theorem dL_isAccepted_26 : decode cL_isAccepted 26 = .ok (.iconst 0, 1) := by decide +kernel
theorem dL_isAccepted_27 : decode cL_isAccepted 27 = .ok (.istore 6, 2) := by decide +kernel
theorem dL_isAccepted_29 : decode cL_isAccepted 29 = .ok (.iconst 0, 1) := by decide +kernel
theorem dL_isAccepted_30 : decode cL_isAccepted 30 = .ok (.istore 7, 2) := by decide +kernel
theorem dL_isAccepted_32 : decode cL_isAccepted 32 = .ok (.iconst 0, 1) := by decide +kernel
theorem dL_isAccepted_33 : decode cL_isAccepted 33 = .ok (.istore 8, 2) := by decide +kernel
theorem dL_isAccepted_35 : decode cL_isAccepted 35 = .ok (.iload 8, 2) := by decide +kernel
theorem dL_isAccepted_37 : decode cL_isAccepted 37 = .ok (.aload_n 0, 1) := by decide +kernel
theorem dL_isAccepted_38 : decode cL_isAccepted 38 = .ok (.iconst 0, 1) := by decide +kernel
theorem dL_isAccepted_39 : decode cL_isAccepted 39 = .ok (.invokevirtual 29, 3) := by decide +kernel
theorem dL_isAccepted_42 : decode cL_isAccepted 42 = .ok (.if_icmp .ge 109, 3) := by decide +kernel
theorem dL_isAccepted_45 : decode cL_isAccepted 45 = .ok (.aload_n 0, 1) := by decide +kernel
theorem dL_isAccepted_46 : decode cL_isAccepted 46 = .ok (.iload 8, 2) := by decide +kernel
theorem dL_isAccepted_48 : decode cL_isAccepted 48 = .ok (.invokevirtual 92, 3) := by decide +kernel
theorem dL_isAccepted_51 : decode cL_isAccepted 51 = .ok (.istore 9, 2) := by decide +kernel
theorem dL_isAccepted_53 : decode cL_isAccepted 53 = .ok (.aload_n 0, 1) := by decide +kernel
theorem dL_isAccepted_54 : decode cL_isAccepted 54 = .ok (.iload 8, 2) := by decide +kernel
theorem dL_isAccepted_56 : decode cL_isAccepted 56 = .ok (.bipush 9, 2) := by decide +kernel
theorem dL_isAccepted_58 : decode cL_isAccepted 58 = .ok (.invokevirtual 108, 3) := by decide +kernel
theorem dL_isAccepted_61 : decode cL_isAccepted 61 = .ok (.istore 10, 2) := by decide +kernel
theorem dL_isAccepted_63 : decode cL_isAccepted 63 = .ok (.iload 9, 2) := by decide +kernel
theorem dL_isAccepted_65 : decode cL_isAccepted 65 = .ok (.ifCond .ne 10, 3) := by decide +kernel
theorem dL_isAccepted_68 : decode cL_isAccepted 68 = .ok (.iload 6, 2) := by decide +kernel
theorem dL_isAccepted_70 : decode cL_isAccepted 70 = .ok (.iconst 1, 1) := by decide +kernel
theorem dL_isAccepted_71 : decode cL_isAccepted 71 = .ok (.iadd, 1) := by decide +kernel
theorem dL_isAccepted_72 : decode cL_isAccepted 72 = .ok (.goto 5, 3) := by decide +kernel
theorem dL_isAccepted_75 : decode cL_isAccepted 75 = .ok (.iload 6, 2) := by decide +kernel
theorem dL_isAccepted_77 : decode cL_isAccepted 77 = .ok (.istore 6, 2) := by decide +kernel
theorem dL_isAccepted_79 : decode cL_isAccepted 79 = .ok (.iload 9, 2) := by decide +kernel
theorem dL_isAccepted_81 : decode cL_isAccepted 81 = .ok (.ifCond .le 17, 3) := by decide +kernel
theorem dL_isAccepted_84 : decode cL_isAccepted 84 = .ok (.iload 9, 2) := by decide +kernel
theorem dL_isAccepted_86 : decode cL_isAccepted 86 = .ok (.bipush 6, 2) := by decide +kernel
theorem dL_isAccepted_88 : decode cL_isAccepted 88 = .ok (.if_icmp .ge 10, 3) := by decide +kernel
theorem dL_isAccepted_91 : decode cL_isAccepted 91 = .ok (.iload 7, 2) := by decide +kernel
theorem dL_isAccepted_93 : decode cL_isAccepted 93 = .ok (.iconst 1, 1) := by decide +kernel
theorem dL_isAccepted_94 : decode cL_isAccepted 94 = .ok (.iadd, 1) := by decide +kernel
theorem dL_isAccepted_95 : decode cL_isAccepted 95 = .ok (.goto 5, 3) := by decide +kernel
theorem dL_isAccepted_98 : decode cL_isAccepted 98 = .ok (.iload 7, 2) := by decide +kernel
theorem dL_isAccepted_100 : decode cL_isAccepted 100 = .ok (.istore 7, 2) := by decide +kernel
theorem dL_isAccepted_102 : decode cL_isAccepted 102 = .ok (.iload 9, 2) := by decide +kernel
theorem dL_isAccepted_104 : decode cL_isAccepted 104 = .ok (.iconst 5, 1) := by decide +kernel
theorem dL_isAccepted_105 : decode cL_isAccepted 105 = .ok (.if_icmp .ge 10, 3) := by decide +kernel
theorem dL_isAccepted_108 : decode cL_isAccepted 108 = .ok (.iload 9, 2) := by decide +kernel
theorem dL_isAccepted_110 : decode cL_isAccepted 110 = .ok (.iload 10, 2) := by decide +kernel
theorem dL_isAccepted_112 : decode cL_isAccepted 112 = .ok (.if_icmp .ne 31, 3) := by decide +kernel
theorem dL_isAccepted_115 : decode cL_isAccepted 115 = .ok (.iload 9, 2) := by decide +kernel
theorem dL_isAccepted_117 : decode cL_isAccepted 117 = .ok (.iconst 5, 1) := by decide +kernel
theorem dL_isAccepted_118 : decode cL_isAccepted 118 = .ok (.if_icmp .ne 13, 3) := by decide +kernel
theorem dL_isAccepted_121 : decode cL_isAccepted 121 = .ok (.iload 10, 2) := by decide +kernel
theorem dL_isAccepted_123 : decode cL_isAccepted 123 = .ok (.ifCond .ne 20, 3) := by decide +kernel
theorem dL_isAccepted_126 : decode cL_isAccepted 126 = .ok (.iload_n 1, 1) := by decide +kernel
theorem dL_isAccepted_127 : decode cL_isAccepted 127 = .ok (.iconst 1, 1) := by decide +kernel
theorem dL_isAccepted_128 : decode cL_isAccepted 128 = .ok (.if_icmp .ne 15, 3) := by decide +kernel
theorem dL_isAccepted_131 : decode cL_isAccepted 131 = .ok (.iload 9, 2) := by decide +kernel
theorem dL_isAccepted_133 : decode cL_isAccepted 133 = .ok (.bipush 6, 2) := by decide +kernel
theorem dL_isAccepted_135 : decode cL_isAccepted 135 = .ok (.if_icmp .ne 10, 3) := by decide +kernel
theorem dL_isAccepted_138 : decode cL_isAccepted 138 = .ok (.iload_n 1, 1) := by decide +kernel
theorem dL_isAccepted_139 : decode cL_isAccepted 139 = .ok (.iconst 2, 1) := by decide +kernel
theorem dL_isAccepted_140 : decode cL_isAccepted 140 = .ok (.if_icmp .eq 5, 3) := by decide +kernel
theorem dL_isAccepted_143 : decode cL_isAccepted 143 = .ok (.iconst 0, 1) := by decide +kernel
theorem dL_isAccepted_144 : decode cL_isAccepted 144 = .ok (.ireturn, 1) := by decide +kernel
theorem dL_isAccepted_145 : decode cL_isAccepted 145 = .ok (.iinc 8 1, 3) := by decide +kernel
theorem dL_isAccepted_148 : decode cL_isAccepted 148 = .ok (.goto (-113), 3) := by decide +kernel
theorem dL_isAccepted_151 : decode cL_isAccepted 151 = .ok (.iload 5, 2) := by decide +kernel
theorem dL_isAccepted_153 : decode cL_isAccepted 153 = .ok (.iload_n 2, 1) := by decide +kernel
theorem dL_isAccepted_154 : decode cL_isAccepted 154 = .ok (.if_icmp .ne 50, 3) := by decide +kernel
theorem dL_isAccepted_157 : decode cL_isAccepted 157 = .ok (.iload 6, 2) := by decide +kernel
theorem dL_isAccepted_159 : decode cL_isAccepted 159 = .ok (.iload 5, 2) := by decide +kernel
theorem dL_isAccepted_161 : decode cL_isAccepted 161 = .ok (.if_icmp .ne 43, 3) := by decide +kernel
theorem dL_isAccepted_164 : decode cL_isAccepted 164 = .ok (.iload 7, 2) := by decide +kernel
theorem dL_isAccepted_166 : decode cL_isAccepted 166 = .ok (.aload_n 0, 1) := by decide +kernel
theorem dL_isAccepted_167 : decode cL_isAccepted 167 = .ok (.iconst 3, 1) := by decide +kernel
theorem dL_isAccepted_168 : decode cL_isAccepted 168 = .ok (.invokevirtual 29, 3) := by decide +kernel
theorem dL_isAccepted_171 : decode cL_isAccepted 171 = .ok (.if_icmp .ne 33, 3) := by decide +kernel
theorem dL_isAccepted_174 : decode cL_isAccepted 174 = .ok (.iload_n 2, 1) := by decide +kernel
theorem dL_isAccepted_175 : decode cL_isAccepted 175 = .ok (.iload_n 3, 1) := by decide +kernel
theorem dL_isAccepted_176 : decode cL_isAccepted 176 = .ok (.if_icmp .gt 28, 3) := by decide +kernel
theorem dL_isAccepted_179 : decode cL_isAccepted 179 = .ok (.iload_n 1, 1) := by decide +kernel
theorem dL_isAccepted_180 : decode cL_isAccepted 180 = .ok (.iconst 1, 1) := by decide +kernel
theorem dL_isAccepted_181 : decode cL_isAccepted 181 = .ok (.if_icmp .ne 19, 3) := by decide +kernel
theorem dL_isAccepted_184 : decode cL_isAccepted 184 = .ok (.aload_n 0, 1) := by decide +kernel
theorem dL_isAccepted_185 : decode cL_isAccepted 185 = .ok (.iconst 3, 1) := by decide +kernel
theorem dL_isAccepted_186 : decode cL_isAccepted 186 = .ok (.invokevirtual 29, 3) := by decide +kernel
theorem dL_isAccepted_189 : decode cL_isAccepted 189 = .ok (.aload_n 0, 1) := by decide +kernel
theorem dL_isAccepted_190 : decode cL_isAccepted 190 = .ok (.iconst 0, 1) := by decide +kernel
theorem dL_isAccepted_191 : decode cL_isAccepted 191 = .ok (.invokevirtual 29, 3) := by decide +kernel
theorem dL_isAccepted_194 : decode cL_isAccepted 194 = .ok (.iload 6, 2) := by decide +kernel
theorem dL_isAccepted_196 : decode cL_isAccepted 196 = .ok (.isub, 1) := by decide +kernel
theorem dL_isAccepted_197 : decode cL_isAccepted 197 = .ok (.if_icmp .ne 7, 3) := by decide +kernel
theorem dL_isAccepted_200 : decode cL_isAccepted 200 = .ok (.iconst 1, 1) := by decide +kernel
theorem dL_isAccepted_201 : decode cL_isAccepted 201 = .ok (.goto 4, 3) := by decide +kernel
theorem dL_isAccepted_204 : decode cL_isAccepted 204 = .ok (.iconst 0, 1) := by decide +kernel
theorem dL_isAccepted_205 : decode cL_isAccepted 205 = .ok (.istore 8, 2) := by decide +kernel
theorem dL_isAccepted_207 : decode cL_isAccepted 207 = .ok (.aload_n 0, 1) := by decide +kernel
theorem dL_isAccepted_208 : decode cL_isAccepted 208 = .ok (.invokevirtual 64, 3) := by decide +kernel
theorem dL_isAccepted_211 : decode cL_isAccepted 211 = .ok (.ifCond .lt 29, 3) := by decide +kernel
theorem dL_isAccepted_214 : decode cL_isAccepted 214 = .ok (.aload_n 0, 1) := by decide +kernel
theorem dL_isAccepted_215 : decode cL_isAccepted 215 = .ok (.invokevirtual 64, 3) := by decide +kernel
theorem dL_isAccepted_218 : decode cL_isAccepted 218 = .ok (.ifCond .lt 22, 3) := by decide +kernel
theorem dL_isAccepted_221 : decode cL_isAccepted 221 = .ok (.iload 8, 2) := by decide +kernel
theorem dL_isAccepted_223 : decode cL_isAccepted 223 = .ok (.ifCond .eq 17, 3) := by decide +kernel
theorem dL_isAccepted_226 : decode cL_isAccepted 226 = .ok (.aload_n 0, 1) := by decide +kernel
theorem dL_isAccepted_227 : decode cL_isAccepted 227 = .ok (.iconst 0, 1) := by decide +kernel
theorem dL_isAccepted_228 : decode cL_isAccepted 228 = .ok (.invokevirtual 111, 3) := by decide +kernel
theorem dL_isAccepted_231 : decode cL_isAccepted 231 = .ok (.iload 4, 2) := by decide +kernel
theorem dL_isAccepted_233 : decode cL_isAccepted 233 = .ok (.if_icmp .ne 7, 3) := by decide +kernel
theorem dL_isAccepted_236 : decode cL_isAccepted 236 = .ok (.iconst 1, 1) := by decide +kernel
theorem dL_isAccepted_237 : decode cL_isAccepted 237 = .ok (.goto 4, 3) := by decide +kernel
theorem dL_isAccepted_240 : decode cL_isAccepted 240 = .ok (.iconst 0, 1) := by decide +kernel
theorem dL_isAccepted_241 : decode cL_isAccepted 241 = .ok (.ireturn, 1) := by decide +kernel
theorem dL_areAlike_0 : decode cL_areAlike 0 = .ok (.aload_n 0, 1) := by decide +kernel
theorem dL_areAlike_1 : decode cL_areAlike 1 = .ok (.invokevirtual 82, 3) := by decide +kernel
theorem dL_areAlike_4 : decode cL_areAlike 4 = .ok (.aload_n 1, 1) := by decide +kernel
theorem dL_areAlike_5 : decode cL_areAlike 5 = .ok (.invokevirtual 82, 3) := by decide +kernel
theorem dL_areAlike_8 : decode cL_areAlike 8 = .ok (.fcmp .l, 1) := by decide +kernel
theorem dL_areAlike_9 : decode cL_areAlike 9 = .ok (.ifCond .ne 29, 3) := by decide +kernel
theorem dL_areAlike_12 : decode cL_areAlike 12 = .ok (.aload_n 0, 1) := by decide +kernel
theorem dL_areAlike_13 : decode cL_areAlike 13 = .ok (.invokevirtual 79, 3) := by decide +kernel
theorem dL_areAlike_16 : decode cL_areAlike 16 = .ok (.aload_n 1, 1) := by decide +kernel
theorem dL_areAlike_17 : decode cL_areAlike 17 = .ok (.invokevirtual 79, 3) := by decide +kernel
theorem dL_areAlike_20 : decode cL_areAlike 20 = .ok (.if_icmp .ne 18, 3) := by decide +kernel
theorem dL_areAlike_23 : decode cL_areAlike 23 = .ok (.aload_n 0, 1) := by decide +kernel
theorem dL_areAlike_24 : decode cL_areAlike 24 = .ok (.invokevirtual 102, 3) := by decide +kernel
theorem dL_areAlike_27 : decode cL_areAlike 27 = .ok (.aload_n 1, 1) := by decide +kernel
theorem dL_areAlike_28 : decode cL_areAlike 28 = .ok (.invokevirtual 102, 3) := by decide +kernel
theorem dL_areAlike_31 : decode cL_areAlike 31 = .ok (.if_icmp .ne 7, 3) := by decide +kernel
theorem dL_areAlike_34 : decode cL_areAlike 34 = .ok (.iconst 1, 1) := by decide +kernel
theorem dL_areAlike_35 : decode cL_areAlike 35 = .ok (.goto 4, 3) := by decide +kernel
theorem dL_areAlike_38 : decode cL_areAlike 38 = .ok (.iconst 0, 1) := by decide +kernel
theorem dL_areAlike_39 : decode cL_areAlike 39 = .ok (.istore_n 2, 1) := by decide +kernel
theorem dL_areAlike_40 : decode cL_areAlike 40 = .ok (.iconst 0, 1) := by decide +kernel
theorem dL_areAlike_41 : decode cL_areAlike 41 = .ok (.istore_n 3, 1) := by decide +kernel
theorem dL_areAlike_42 : decode cL_areAlike 42 = .ok (.iload_n 3, 1) := by decide +kernel
theorem dL_areAlike_43 : decode cL_areAlike 43 = .ok (.iconst 5, 1) := by decide +kernel
theorem dL_areAlike_44 : decode cL_areAlike 44 = .ok (.if_icmp .ge 32, 3) := by decide +kernel
theorem dL_areAlike_47 : decode cL_areAlike 47 = .ok (.iload_n 2, 1) := by decide +kernel
theorem dL_areAlike_48 : decode cL_areAlike 48 = .ok (.ifCond .eq 20, 3) := by decide +kernel
theorem dL_areAlike_51 : decode cL_areAlike 51 = .ok (.aload_n 0, 1) := by decide +kernel
theorem dL_areAlike_52 : decode cL_areAlike 52 = .ok (.iload_n 3, 1) := by decide +kernel
theorem dL_areAlike_53 : decode cL_areAlike 53 = .ok (.invokevirtual 29, 3) := by decide +kernel
theorem dL_areAlike_56 : decode cL_areAlike 56 = .ok (.aload_n 1, 1) := by decide +kernel
theorem dL_areAlike_57 : decode cL_areAlike 57 = .ok (.iload_n 3, 1) := by decide +kernel
theorem dL_areAlike_58 : decode cL_areAlike 58 = .ok (.invokevirtual 29, 3) := by decide +kernel
theorem dL_areAlike_61 : decode cL_areAlike 61 = .ok (.if_icmp .ne 7, 3) := by decide +kernel
theorem dL_areAlike_64 : decode cL_areAlike 64 = .ok (.iconst 1, 1) := by decide +kernel
theorem dL_areAlike_65 : decode cL_areAlike 65 = .ok (.goto 4, 3) := by decide +kernel
theorem dL_areAlike_68 : decode cL_areAlike 68 = .ok (.iconst 0, 1) := by decide +kernel
theorem dL_areAlike_69 : decode cL_areAlike 69 = .ok (.istore_n 2, 1) := by decide +kernel
theorem dL_areAlike_70 : decode cL_areAlike 70 = .ok (.iinc 3 1, 3) := by decide +kernel
theorem dL_areAlike_73 : decode cL_areAlike 73 = .ok (.goto (-31), 3) := by decide +kernel
theorem dL_areAlike_76 : decode cL_areAlike 76 = .ok (.iconst 0, 1) := by decide +kernel
theorem dL_areAlike_77 : decode cL_areAlike 77 = .ok (.istore_n 3, 1) := by decide +kernel
theorem dL_areAlike_78 : decode cL_areAlike 78 = .ok (.iload_n 3, 1) := by decide +kernel
theorem dL_areAlike_79 : decode cL_areAlike 79 = .ok (.aload_n 0, 1) := by decide +kernel
theorem dL_areAlike_80 : decode cL_areAlike 80 = .ok (.iconst 0, 1) := by decide +kernel
theorem dL_areAlike_81 : decode cL_areAlike 81 = .ok (.invokevirtual 29, 3) := by decide +kernel
theorem dL_areAlike_84 : decode cL_areAlike 84 = .ok (.if_icmp .ge 52, 3) := by decide +kernel
theorem dL_areAlike_87 : decode cL_areAlike 87 = .ok (.iconst 0, 1) := by decide +kernel
theorem dL_areAlike_88 : decode cL_areAlike 88 = .ok (.istore 4, 2) := by decide +kernel
theorem dL_areAlike_90 : decode cL_areAlike 90 = .ok (.iload 4, 2) := by decide +kernel
theorem dL_areAlike_92 : decode cL_areAlike 92 = .ok (.bipush 10, 2) := by decide +kernel
theorem dL_areAlike_94 : decode cL_areAlike 94 = .ok (.if_icmp .ge 36, 3) := by decide +kernel
theorem dL_areAlike_97 : decode cL_areAlike 97 = .ok (.iload_n 2, 1) := by decide +kernel
theorem dL_areAlike_98 : decode cL_areAlike 98 = .ok (.ifCond .eq 24, 3) := by decide +kernel
theorem dL_areAlike_101 : decode cL_areAlike 101 = .ok (.aload_n 0, 1) := by decide +kernel
theorem dL_areAlike_102 : decode cL_areAlike 102 = .ok (.iload_n 3, 1) := by decide +kernel
theorem dL_areAlike_103 : decode cL_areAlike 103 = .ok (.iload 4, 2) := by decide +kernel
theorem dL_areAlike_105 : decode cL_areAlike 105 = .ok (.invokevirtual 108, 3) := by decide +kernel
theorem dL_areAlike_108 : decode cL_areAlike 108 = .ok (.aload_n 1, 1) := by decide +kernel
theorem dL_areAlike_109 : decode cL_areAlike 109 = .ok (.iload_n 3, 1) := by decide +kernel
theorem dL_areAlike_110 : decode cL_areAlike 110 = .ok (.iload 4, 2) := by decide +kernel
theorem dL_areAlike_112 : decode cL_areAlike 112 = .ok (.invokevirtual 108, 3) := by decide +kernel
theorem dL_areAlike_115 : decode cL_areAlike 115 = .ok (.if_icmp .ne 7, 3) := by decide +kernel
theorem dL_areAlike_118 : decode cL_areAlike 118 = .ok (.iconst 1, 1) := by decide +kernel
theorem dL_areAlike_119 : decode cL_areAlike 119 = .ok (.goto 4, 3) := by decide +kernel
theorem dL_areAlike_122 : decode cL_areAlike 122 = .ok (.iconst 0, 1) := by decide +kernel
theorem dL_areAlike_123 : decode cL_areAlike 123 = .ok (.istore_n 2, 1) := by decide +kernel
theorem dL_areAlike_124 : decode cL_areAlike 124 = .ok (.iinc 4 1, 3) := by decide +kernel
theorem dL_areAlike_127 : decode cL_areAlike 127 = .ok (.goto (-37), 3) := by decide +kernel
theorem dL_areAlike_130 : decode cL_areAlike 130 = .ok (.iinc 3 1, 3) := by decide +kernel
theorem dL_areAlike_133 : decode cL_areAlike 133 = .ok (.goto (-55), 3) := by decide +kernel
theorem dL_areAlike_136 : decode cL_areAlike 136 = .ok (.iload_n 2, 1) := by decide +kernel
theorem dL_areAlike_137 : decode cL_areAlike 137 = .ok (.ireturn, 1) := by decide +kernel
theorem dL_law_0 : decode cL_law 0 = .ok (.new 10, 3) := by decide +kernel
theorem dL_law_3 : decode cL_law 3 = .ok (.dup, 1) := by decide +kernel
theorem dL_law_4 : decode cL_law 4 = .ok (.invokespecial 114, 3) := by decide +kernel
theorem dL_law_7 : decode cL_law 7 = .ok (.astore_n 1, 1) := by decide +kernel
theorem dL_law_8 : decode cL_law 8 = .ok (.new 10, 3) := by decide +kernel
theorem dL_law_11 : decode cL_law 11 = .ok (.dup, 1) := by decide +kernel
theorem dL_law_12 : decode cL_law 12 = .ok (.invokespecial 114, 3) := by decide +kernel
theorem dL_law_15 : decode cL_law 15 = .ok (.astore_n 2, 1) := by decide +kernel
theorem dL_law_16 : decode cL_law 16 = .ok (.iconst 0, 1) := by decide +kernel
theorem dL_law_17 : decode cL_law 17 = .ok (.istore_n 3, 1) := by decide +kernel
theorem dL_law_18 : decode cL_law 18 = .ok (.iload_n 3, 1) := by decide +kernel
theorem dL_law_19 : decode cL_law 19 = .ok (.bipush 40, 2) := by decide +kernel
theorem dL_law_21 : decode cL_law 21 = .ok (.if_icmp .ge 107, 3) := by decide +kernel
theorem dL_law_24 : decode cL_law 24 = .ok (.aload_n 0, 1) := by decide +kernel
theorem dL_law_25 : decode cL_law 25 = .ok (.iconst 2, 1) := by decide +kernel
theorem dL_law_26 : decode cL_law 26 = .ok (.iload_n 3, 1) := by decide +kernel
theorem dL_law_27 : decode cL_law 27 = .ok (.imul, 1) := by decide +kernel
theorem dL_law_28 : decode cL_law 28 = .ok (.invokestatic 115, 3) := by decide +kernel
theorem dL_law_31 : decode cL_law 31 = .ok (.istore 4, 2) := by decide +kernel
theorem dL_law_33 : decode cL_law 33 = .ok (.aload_n 0, 1) := by decide +kernel
theorem dL_law_34 : decode cL_law 34 = .ok (.iconst 2, 1) := by decide +kernel
theorem dL_law_35 : decode cL_law 35 = .ok (.iload_n 3, 1) := by decide +kernel
theorem dL_law_36 : decode cL_law 36 = .ok (.imul, 1) := by decide +kernel
theorem dL_law_37 : decode cL_law 37 = .ok (.iconst 1, 1) := by decide +kernel
theorem dL_law_38 : decode cL_law 38 = .ok (.iadd, 1) := by decide +kernel
theorem dL_law_39 : decode cL_law 39 = .ok (.invokestatic 115, 3) := by decide +kernel
theorem dL_law_42 : decode cL_law 42 = .ok (.istore 5, 2) := by decide +kernel
theorem dL_law_44 : decode cL_law 44 = .ok (.iload 4, 2) := by decide +kernel
theorem dL_law_46 : decode cL_law 46 = .ok (.bipush 26, 2) := by decide +kernel
theorem dL_law_48 : decode cL_law 48 = .ok (.invokestatic 19, 3) := by decide +kernel
theorem dL_law_51 : decode cL_law 51 = .ok (.bipush 17, 2) := by decide +kernel
theorem dL_law_53 : decode cL_law 53 = .ok (.if_icmp .eq 22, 3) := by decide +kernel
theorem dL_law_56 : decode cL_law 56 = .ok (.aload_n 1, 1) := by decide +kernel
theorem dL_law_57 : decode cL_law 57 = .ok (.iload 4, 2) := by decide +kernel
theorem dL_law_59 : decode cL_law 59 = .ok (.iload 5, 2) := by decide +kernel
theorem dL_law_61 : decode cL_law 61 = .ok (.invokestatic 119, 3) := by decide +kernel
theorem dL_law_64 : decode cL_law 64 = .ok (.aload_n 2, 1) := by decide +kernel
theorem dL_law_65 : decode cL_law 65 = .ok (.iload 4, 2) := by decide +kernel
theorem dL_law_67 : decode cL_law 67 = .ok (.iload 5, 2) := by decide +kernel
theorem dL_law_69 : decode cL_law 69 = .ok (.invokestatic 119, 3) := by decide +kernel
theorem dL_law_72 : decode cL_law 72 = .ok (.if_icmp .ne 10, 3) := by decide +kernel
theorem dL_law_75 : decode cL_law 75 = .ok (.aload_n 1, 1) := by decide +kernel
theorem dL_law_76 : decode cL_law 76 = .ok (.invokestatic 122, 3) := by decide +kernel
theorem dL_law_79 : decode cL_law 79 = .ok (.ifCond .ne 5, 3) := by decide +kernel
theorem dL_law_82 : decode cL_law 82 = .ok (.iconst 0, 1) := by decide +kernel
theorem dL_law_83 : decode cL_law 83 = .ok (.ireturn, 1) := by decide +kernel
theorem dL_law_84 : decode cL_law 84 = .ok (.iload_n 3, 1) := by decide +kernel
theorem dL_law_85 : decode cL_law 85 = .ok (.iconst 5, 1) := by decide +kernel
theorem dL_law_86 : decode cL_law 86 = .ok (.irem, 1) := by decide +kernel
theorem dL_law_87 : decode cL_law 87 = .ok (.iconst 4, 1) := by decide +kernel
theorem dL_law_88 : decode cL_law 88 = .ok (.if_icmp .ne 34, 3) := by decide +kernel
theorem dL_law_91 : decode cL_law 91 = .ok (.aload_n 1, 1) := by decide +kernel
theorem dL_law_92 : decode cL_law 92 = .ok (.invokestatic 126, 3) := by decide +kernel
theorem dL_law_95 : decode cL_law 95 = .ok (.ifCond .eq 25, 3) := by decide +kernel
theorem dL_law_98 : decode cL_law 98 = .ok (.aload_n 1, 1) := by decide +kernel
theorem dL_law_99 : decode cL_law 99 = .ok (.invokestatic 129, 3) := by decide +kernel
theorem dL_law_102 : decode cL_law 102 = .ok (.ifCond .eq 18, 3) := by decide +kernel
theorem dL_law_105 : decode cL_law 105 = .ok (.aload_n 1, 1) := by decide +kernel
theorem dL_law_106 : decode cL_law 106 = .ok (.iload 5, 2) := by decide +kernel
theorem dL_law_108 : decode cL_law 108 = .ok (.iconst 3, 1) := by decide +kernel
theorem dL_law_109 : decode cL_law 109 = .ok (.ishr, 1) := by decide +kernel
theorem dL_law_110 : decode cL_law 110 = .ok (.iconst 3, 1) := by decide +kernel
theorem dL_law_111 : decode cL_law 111 = .ok (.invokestatic 19, 3) := by decide +kernel
theorem dL_law_114 : decode cL_law 114 = .ok (.invokestatic 132, 3) := by decide +kernel
theorem dL_law_117 : decode cL_law 117 = .ok (.ifCond .ne 5, 3) := by decide +kernel
theorem dL_law_120 : decode cL_law 120 = .ok (.iconst 0, 1) := by decide +kernel
theorem dL_law_121 : decode cL_law 121 = .ok (.ireturn, 1) := by decide +kernel
theorem dL_law_122 : decode cL_law 122 = .ok (.iinc 3 1, 3) := by decide +kernel
theorem dL_law_125 : decode cL_law 125 = .ok (.goto (-107), 3) := by decide +kernel
theorem dL_law_128 : decode cL_law 128 = .ok (.aload_n 1, 1) := by decide +kernel
theorem dL_law_129 : decode cL_law 129 = .ok (.aload_n 2, 1) := by decide +kernel
theorem dL_law_130 : decode cL_law 130 = .ok (.invokestatic 136, 3) := by decide +kernel
theorem dL_law_133 : decode cL_law 133 = .ok (.ireturn, 1) := by decide +kernel
end
section
/-! walking the small machine: from here the method ends, with Q -/
def Rn (sA : Nat) (mi : am_I) (pc : Nat) (ls : am_L) (st : List Value) (H : am_H) (Q : Option Value → am_H → Prop) : Prop := ∃ n r H', am_exec sA n mi pc ls st H = some (r, H') ∧ Q r H'
theorem am_fuel1 (sA : Nat) : ∀ (n : Nat) (mi : am_I) (pc : Nat) (ls : am_L) (st : List Value) (H : am_H) (x : Option Value × am_H), am_exec sA n mi pc ls st H = some x → am_exec sA (n + 1) mi pc ls st H = some x
  | 0, _, _, _, _, _, _, h => by simp [am_exec] at h
  | n + 1, mi, pc, ls, st, H, x, h => by
    have ih := am_fuel1 sA n
    unfold am_exec at h
    unfold am_exec
    split at h
    · cases h
    · split at h
      · rename_i i n0 hd hl
        rw [if_pos hl]
        split at h
        · rename_i r hr
          exact h
        · rename_i hr
          split at h
          · rename_i mj As rest hc
            split at h
            · rename_i hf
              rw [if_pos hf]
              split at h
              · rename_i r1 H1 h1
                rw [ih _ _ _ _ _ _ h1]
                exact ih _ _ _ _ _ _ h
              · cases h
            · cases h
          · rename_i hc
            split at h
            · rename_i pc' ls' st' H' hs
              split at h
              · rename_i hm
                rw [if_pos hm]
                exact ih _ _ _ _ _ _ h
              · cases h
            · cases h
      · cases h
theorem am_fuel {sA n n' : Nat} {mi : am_I} {pc : Nat} {ls : am_L} {st : List Value} {H : am_H} {x : Option Value × am_H} (h : am_exec sA n mi pc ls st H = some x) (hn : n ≤ n') : am_exec sA n' mi pc ls st H = some x := by
  induction hn with
  | refl => exact h
  | step _ ih => exact am_fuel1 sA _ _ _ _ _ _ _ ih
section RNS
variable {sA : Nat} {mi : am_I} {pc : Nat} {ls : am_L} {st : List Value} {h : Nat → Option am_C} {z : Nat × Nat} {Q : Option Value → am_H → Prop}
theorem Rn.step {H : am_H} {i : Instr} {n0 : Nat} {pc' : Nat} {ls' : am_L} {st' : List Value} {H' : am_H} (hd : decode mi.2.1 pc = .ok (i, n0)) (hl : am_lenOk i n0 = true) (hr : am_ret mi i st = none) (hc : am_call mi i st H = none) (hs : am_step sA mi i pc ls st H = some (pc', ls', st', H')) (hm : H.2.1 ≤ H'.2.1 ∧ H.2.2 ≤ H'.2.2) (k : Rn sA mi pc' ls' st' H' Q) : Rn sA mi pc ls st H Q := by
  obtain ⟨n, r, H2, e, q⟩ := k
  refine ⟨n + 1, r, H2, ?_, q⟩
  unfold am_exec
  rw [hd]
  dsimp only
  rw [if_pos hl, hr]
  dsimp only
  rw [hc]
  dsimp only
  rw [hs]
  dsimp only
  rw [if_pos hm]
  exact e
theorem Rn.call {H : am_H} {i : Instr} {n0 : Nat} {mj : am_I} {As rest : List Value} (hd : decode mi.2.1 pc = .ok (i, n0)) (hl : am_lenOk i n0 = true) (hr : am_ret mi i st = none) (hc : am_call mi i st H = some (mj, As, rest)) (hf : (am_flat As).length ≤ mj.2.2.2.1) (k : Rn sA mj 0 (am_entry As mj.2.2.2.1) [] H (fun r H' => Rn sA mi (pc + 3) ls (r.toList ++ rest) H' Q)) : Rn sA mi pc ls st H Q := by
  obtain ⟨n1, r1, H1, e1, n2, r2, H2, e2, q⟩ := k
  refine ⟨(n1 + n2) + 1, r2, H2, ?_, q⟩
  unfold am_exec
  rw [hd]
  dsimp only
  rw [if_pos hl, hr]
  dsimp only
  rw [hc]
  dsimp only
  rw [if_pos hf, am_fuel e1 (Nat.le_add_right n1 n2)]
  exact am_fuel e2 (Nat.le_add_left n2 n1)
theorem Rn.ret {H : am_H} {i : Instr} {n0 : Nat} {r : Option Value} (hd : decode mi.2.1 pc = .ok (i, n0)) (hl : am_lenOk i n0 = true) (hr : am_ret mi i st = some r) (q : Q r H) : Rn sA mi pc ls st H Q := by
  refine ⟨1, r, H, ?_, q⟩
  unfold am_exec
  rw [hd]
  dsimp only
  rw [if_pos hl, hr]
theorem Rn.mono {H : am_H} {Q' : Option Value → am_H → Prop} (k : Rn sA mi pc ls st H Q) (hq : ∀ r H', Q r H' → Q' r H') : Rn sA mi pc ls st H Q' := by
  obtain ⟨n, r, H2, e, q⟩ := k
  exact ⟨n, r, H2, e, hq _ _ q⟩
theorem am_iN {i : Int32} {j n : Nat} (hi : i = nI j) (hj : j < n) (hn : n ≤ 100000) : 0 ≤ i ∧ i.toNatClampNeg < n ∧ i.toNatClampNeg = j := by
  subst hi
  have h31 : j < 2 ^ 31 := by omega
  exact ⟨nI_pos' h31, by rw [nI_clamp h31]; exact hj, nI_clamp h31⟩
theorem am_iM {i : Int32} {n : Nat} (hi : i = nI n) (hn : n ≤ 100000) : 0 ≤ i ∧ i.toNatClampNeg = n := by
  subst hi
  have h31 : n < 2 ^ 31 := by omega
  exact ⟨nI_pos' h31, nI_clamp h31⟩
theorem up_s {α : Type} {f : Nat → α} {a : Nat} {c : α} : va_up f a c a = c := by simp [va_up]
theorem up_n {α : Type} {f : Nat → α} {a b : Nat} {c v : α} (hne : b ≠ a) (hb : f b = v) : va_up f a c b = v := by simp [va_up, hne, hb]
theorem upd_s {f : Nat → Int32} {a : Nat} {c : Int32} : upd f a c a = c := by simp [upd]
theorem upd_n {f : Nat → Int32} {a b : Nat} {c : Int32} (hne : b ≠ a) : upd f a c b = f b := by simp [upd, hne]
theorem R_iconst {v : Int} {x : Int32} (hd : decode mi.2.1 pc = .ok (.iconst v, 1)) (hv : Int32.ofInt v = x) (k : Rn sA mi (pc + 1) ls (.int x :: st) (h, z) Q) : Rn sA mi pc ls st (h, z) Q :=
  Rn.step (H' := (h, z)) hd rfl rfl rfl (by rw [← hv]; rfl) ⟨Nat.le_refl _, Nat.le_refl _⟩ k
theorem R_bipush {v : Int} {x : Int32} (hd : decode mi.2.1 pc = .ok (.bipush v, 2)) (hv : (Int8.ofInt v).toInt32 = x) (k : Rn sA mi (pc + 2) ls (.int x :: st) (h, z) Q) : Rn sA mi pc ls st (h, z) Q :=
  Rn.step (H' := (h, z)) hd rfl rfl rfl (by rw [← hv]; rfl) ⟨Nat.le_refl _, Nat.le_refl _⟩ k
theorem R_sipush {v : Int} {x : Int32} (hd : decode mi.2.1 pc = .ok (.sipush v, 3)) (hv : (Int16.ofInt v).toInt32 = x) (k : Rn sA mi (pc + 3) ls (.int x :: st) (h, z) Q) : Rn sA mi pc ls st (h, z) Q :=
  Rn.step (H' := (h, z)) hd rfl rfl rfl (by rw [← hv]; rfl) ⟨Nat.le_refl _, Nat.le_refl _⟩ k
theorem R_ldc {cp : Nat} {x : Int32} (hd : decode mi.2.1 pc = .ok (.ldc cp, 2)) (hv : (am_conL mi.1).lookup cp = some x) (k : Rn sA mi (pc + 2) ls (.int x :: st) (h, z) Q) : Rn sA mi pc ls st (h, z) Q :=
  Rn.step (H' := (h, z)) hd rfl rfl rfl (by simp only [am_step, hv, am_pushO, Option.map]) ⟨Nat.le_refl _, Nat.le_refl _⟩ k
theorem R_ldc2 {cp : Nat} {x : Int64} (hd : decode mi.2.1 pc = .ok (.ldc2_w cp, 3)) (hv : (am_lngL mi.1).lookup cp = some x) (k : Rn sA mi (pc + 3) ls (.long x :: st) (h, z) Q) : Rn sA mi pc ls st (h, z) Q :=
  Rn.step (H' := (h, z)) hd rfl rfl rfl (by simp only [am_step, hv, am_pushO, Option.map]) ⟨Nat.le_refl _, Nat.le_refl _⟩ k
theorem R_fconst0  (hd : decode mi.2.1 pc = .ok (.fconst 0, 1))  (k : Rn sA mi (pc + 1) ls (.float FP.fconst0 :: st) (h, z) Q) : Rn sA mi pc ls st (h, z) Q :=
  Rn.step (H' := (h, z)) hd rfl rfl rfl (rfl) ⟨Nat.le_refl _, Nat.le_refl _⟩ k
theorem R_null  (hd : decode mi.2.1 pc = .ok (.aconst_null, 1))  (k : Rn sA mi (pc + 1) ls (.null :: st) (h, z) Q) : Rn sA mi pc ls st (h, z) Q :=
  Rn.step (H' := (h, z)) hd rfl rfl rfl (rfl) ⟨Nat.le_refl _, Nat.le_refl _⟩ k
theorem R_iload_n {i : Fin 4} {x : Int32} (hd : decode mi.2.1 pc = .ok (.iload_n i, 1)) (hx : ls[(i : Nat)]? = some (some (.int x))) (k : Rn sA mi (pc + 1) ls (.int x :: st) (h, z) Q) : Rn sA mi pc ls st (h, z) Q :=
  Rn.step (H' := (h, z)) hd rfl rfl rfl (by simp [am_step, am_load, hx, am_isI, am_isL]) ⟨Nat.le_refl _, Nat.le_refl _⟩ k
theorem R_lload_n {i : Fin 4} {x : Int64} (hd : decode mi.2.1 pc = .ok (.lload_n i, 1)) (hx : ls[(i : Nat)]? = some (some (.long x))) (k : Rn sA mi (pc + 1) ls (.long x :: st) (h, z) Q) : Rn sA mi pc ls st (h, z) Q :=
  Rn.step (H' := (h, z)) hd rfl rfl rfl (by simp [am_step, am_load, hx, am_isI, am_isL]) ⟨Nat.le_refl _, Nat.le_refl _⟩ k
theorem R_iload {i : Nat} {x : Int32} (hd : decode mi.2.1 pc = .ok (.iload i, 2)) (hx : ls[i]? = some (some (.int x))) (k : Rn sA mi (pc + 2) ls (.int x :: st) (h, z) Q) : Rn sA mi pc ls st (h, z) Q :=
  Rn.step (H' := (h, z)) hd rfl rfl rfl (by simp [am_step, am_load, hx, am_isI, am_isL, am_isD]) ⟨Nat.le_refl _, Nat.le_refl _⟩ k
theorem R_lload {i : Nat} {x : Int64} (hd : decode mi.2.1 pc = .ok (.lload i, 2)) (hx : ls[i]? = some (some (.long x))) (k : Rn sA mi (pc + 2) ls (.long x :: st) (h, z) Q) : Rn sA mi pc ls st (h, z) Q :=
  Rn.step (H' := (h, z)) hd rfl rfl rfl (by simp [am_step, am_load, hx, am_isI, am_isL, am_isD]) ⟨Nat.le_refl _, Nat.le_refl _⟩ k
theorem R_dload {i : Nat} {x : UInt64} (hd : decode mi.2.1 pc = .ok (.dload i, 2)) (hx : ls[i]? = some (some (.double x))) (k : Rn sA mi (pc + 2) ls (.double x :: st) (h, z) Q) : Rn sA mi pc ls st (h, z) Q :=
  Rn.step (H' := (h, z)) hd rfl rfl rfl (by simp [am_step, am_load, hx, am_isI, am_isL, am_isD]) ⟨Nat.le_refl _, Nat.le_refl _⟩ k
theorem R_aload_n {i : Fin 4} {a : Nat} (hd : decode mi.2.1 pc = .ok (.aload_n i, 1)) (hx : ls[(i : Nat)]? = some (some (.ref a))) (k : Rn sA mi (pc + 1) ls (.ref a :: st) (h, z) Q) : Rn sA mi pc ls st (h, z) Q :=
  Rn.step (H' := (h, z)) hd rfl rfl rfl (by simp [am_step, am_load, hx, am_isA]) ⟨Nat.le_refl _, Nat.le_refl _⟩ k
theorem R_aload {i : Nat} {a : Nat} (hd : decode mi.2.1 pc = .ok (.aload i, 2)) (hx : ls[i]? = some (some (.ref a))) (k : Rn sA mi (pc + 2) ls (.ref a :: st) (h, z) Q) : Rn sA mi pc ls st (h, z) Q :=
  Rn.step (H' := (h, z)) hd rfl rfl rfl (by simp [am_step, am_load, hx, am_isA]) ⟨Nat.le_refl _, Nat.le_refl _⟩ k
theorem R_aload_nN {i : Fin 4} (hd : decode mi.2.1 pc = .ok (.aload_n i, 1)) (hx : ls[(i : Nat)]? = some (some .null)) (k : Rn sA mi (pc + 1) ls (.null :: st) (h, z) Q) : Rn sA mi pc ls st (h, z) Q :=
  Rn.step (H' := (h, z)) hd rfl rfl rfl (by simp [am_step, am_load, hx, am_isA]) ⟨Nat.le_refl _, Nat.le_refl _⟩ k
theorem R_aloadN {i : Nat} (hd : decode mi.2.1 pc = .ok (.aload i, 2)) (hx : ls[i]? = some (some .null)) (k : Rn sA mi (pc + 2) ls (.null :: st) (h, z) Q) : Rn sA mi pc ls st (h, z) Q :=
  Rn.step (H' := (h, z)) hd rfl rfl rfl (by simp [am_step, am_load, hx, am_isA]) ⟨Nat.le_refl _, Nat.le_refl _⟩ k
theorem R_istore_n {i : Fin 4} {x : Int32} {ls2 : am_L} (hd : decode mi.2.1 pc = .ok (.istore_n i, 1)) (hi : (i : Nat) + 1 ≤ ls.length) (hl2 : am_set (.int x) i ls = ls2) (k : Rn sA mi (pc + 1) ls2 st (h, z) Q) : Rn sA mi pc ls (.int x :: st) (h, z) Q :=
  Rn.step (H' := (h, z)) hd rfl rfl rfl (by subst hl2; simp [am_step, am_store, am_isI, am_isL, am_isA, Value.category, hi]) ⟨Nat.le_refl _, Nat.le_refl _⟩ k
theorem R_lstore_n {i : Fin 4} {x : Int64} {ls2 : am_L} (hd : decode mi.2.1 pc = .ok (.lstore_n i, 1)) (hi : (i : Nat) + 2 ≤ ls.length) (hl2 : am_set (.long x) i ls = ls2) (k : Rn sA mi (pc + 1) ls2 st (h, z) Q) : Rn sA mi pc ls (.long x :: st) (h, z) Q :=
  Rn.step (H' := (h, z)) hd rfl rfl rfl (by subst hl2; simp [am_step, am_store, am_isI, am_isL, am_isA, Value.category, hi]) ⟨Nat.le_refl _, Nat.le_refl _⟩ k
theorem R_astore_n {i : Fin 4} {x : Nat} {ls2 : am_L} (hd : decode mi.2.1 pc = .ok (.astore_n i, 1)) (hi : (i : Nat) + 1 ≤ ls.length) (hl2 : am_set (.ref x) i ls = ls2) (k : Rn sA mi (pc + 1) ls2 st (h, z) Q) : Rn sA mi pc ls (.ref x :: st) (h, z) Q :=
  Rn.step (H' := (h, z)) hd rfl rfl rfl (by subst hl2; simp [am_step, am_store, am_isI, am_isL, am_isA, Value.category, hi]) ⟨Nat.le_refl _, Nat.le_refl _⟩ k
theorem R_istore {i : Nat} {x : Int32} {ls2 : am_L} (hd : decode mi.2.1 pc = .ok (.istore i, 2)) (hi : i + 1 ≤ ls.length) (hl2 : am_set (.int x) i ls = ls2) (k : Rn sA mi (pc + 2) ls2 st (h, z) Q) : Rn sA mi pc ls (.int x :: st) (h, z) Q :=
  Rn.step (H' := (h, z)) hd rfl rfl rfl (by subst hl2; simp [am_step, am_store, am_isI, am_isL, am_isD, am_isA, Value.category, hi]) ⟨Nat.le_refl _, Nat.le_refl _⟩ k
theorem R_lstore {i : Nat} {x : Int64} {ls2 : am_L} (hd : decode mi.2.1 pc = .ok (.lstore i, 2)) (hi : i + 2 ≤ ls.length) (hl2 : am_set (.long x) i ls = ls2) (k : Rn sA mi (pc + 2) ls2 st (h, z) Q) : Rn sA mi pc ls (.long x :: st) (h, z) Q :=
  Rn.step (H' := (h, z)) hd rfl rfl rfl (by subst hl2; simp [am_step, am_store, am_isI, am_isL, am_isD, am_isA, Value.category, hi]) ⟨Nat.le_refl _, Nat.le_refl _⟩ k
theorem R_dstore {i : Nat} {x : UInt64} {ls2 : am_L} (hd : decode mi.2.1 pc = .ok (.dstore i, 2)) (hi : i + 2 ≤ ls.length) (hl2 : am_set (.double x) i ls = ls2) (k : Rn sA mi (pc + 2) ls2 st (h, z) Q) : Rn sA mi pc ls (.double x :: st) (h, z) Q :=
  Rn.step (H' := (h, z)) hd rfl rfl rfl (by subst hl2; simp [am_step, am_store, am_isI, am_isL, am_isD, am_isA, Value.category, hi]) ⟨Nat.le_refl _, Nat.le_refl _⟩ k
theorem R_astore {i : Nat} {x : Nat} {ls2 : am_L} (hd : decode mi.2.1 pc = .ok (.astore i, 2)) (hi : i + 1 ≤ ls.length) (hl2 : am_set (.ref x) i ls = ls2) (k : Rn sA mi (pc + 2) ls2 st (h, z) Q) : Rn sA mi pc ls (.ref x :: st) (h, z) Q :=
  Rn.step (H' := (h, z)) hd rfl rfl rfl (by subst hl2; simp [am_step, am_store, am_isI, am_isL, am_isD, am_isA, Value.category, hi]) ⟨Nat.le_refl _, Nat.le_refl _⟩ k
theorem R_astore_nN {i : Fin 4} {ls2 : am_L} (hd : decode mi.2.1 pc = .ok (.astore_n i, 1)) (hi : (i : Nat) + 1 ≤ ls.length) (hl2 : am_set .null i ls = ls2) (k : Rn sA mi (pc + 1) ls2 st (h, z) Q) : Rn sA mi pc ls (.null :: st) (h, z) Q :=
  Rn.step (H' := (h, z)) hd rfl rfl rfl (by subst hl2; simp [am_step, am_store, am_isA, Value.category, hi]) ⟨Nat.le_refl _, Nat.le_refl _⟩ k
theorem R_iinc {i : Nat} {v : Int} {x y : Int32} {ls2 : am_L} (hd : decode mi.2.1 pc = .ok (.iinc i v, 3)) (hx : ls[i]? = some (some (.int x))) (hv : x + Int32.ofInt v = y) (hl2 : am_set (.int y) i ls = ls2) (k : Rn sA mi (pc + 3) ls2 st (h, z) Q) : Rn sA mi pc ls st (h, z) Q :=
  Rn.step (H' := (h, z)) hd rfl rfl rfl (by subst hv; subst hl2; simp [am_step, am_iinc, hx]) ⟨Nat.le_refl _, Nat.le_refl _⟩ k
theorem R_iadd {x y : Int32} (hd : decode mi.2.1 pc = .ok (.iadd, 1))  (k : Rn sA mi (pc + 1) ls (.int (x + y) :: st) (h, z) Q) : Rn sA mi pc ls (.int y :: .int x :: st) (h, z) Q :=
  Rn.step (H' := (h, z)) hd rfl rfl rfl (rfl) ⟨Nat.le_refl _, Nat.le_refl _⟩ k
theorem R_isub {x y : Int32} (hd : decode mi.2.1 pc = .ok (.isub, 1))  (k : Rn sA mi (pc + 1) ls (.int (x - y) :: st) (h, z) Q) : Rn sA mi pc ls (.int y :: .int x :: st) (h, z) Q :=
  Rn.step (H' := (h, z)) hd rfl rfl rfl (rfl) ⟨Nat.le_refl _, Nat.le_refl _⟩ k
theorem R_imul {x y : Int32} (hd : decode mi.2.1 pc = .ok (.imul, 1))  (k : Rn sA mi (pc + 1) ls (.int (x * y) :: st) (h, z) Q) : Rn sA mi pc ls (.int y :: .int x :: st) (h, z) Q :=
  Rn.step (H' := (h, z)) hd rfl rfl rfl (rfl) ⟨Nat.le_refl _, Nat.le_refl _⟩ k
theorem R_iand {x y : Int32} (hd : decode mi.2.1 pc = .ok (.iand, 1))  (k : Rn sA mi (pc + 1) ls (.int (x &&& y) :: st) (h, z) Q) : Rn sA mi pc ls (.int y :: .int x :: st) (h, z) Q :=
  Rn.step (H' := (h, z)) hd rfl rfl rfl (rfl) ⟨Nat.le_refl _, Nat.le_refl _⟩ k
theorem R_ior {x y : Int32} (hd : decode mi.2.1 pc = .ok (.ior, 1))  (k : Rn sA mi (pc + 1) ls (.int (x ||| y) :: st) (h, z) Q) : Rn sA mi pc ls (.int y :: .int x :: st) (h, z) Q :=
  Rn.step (H' := (h, z)) hd rfl rfl rfl (rfl) ⟨Nat.le_refl _, Nat.le_refl _⟩ k
theorem R_ixor {x y : Int32} (hd : decode mi.2.1 pc = .ok (.ixor, 1))  (k : Rn sA mi (pc + 1) ls (.int (x ^^^ y) :: st) (h, z) Q) : Rn sA mi pc ls (.int y :: .int x :: st) (h, z) Q :=
  Rn.step (H' := (h, z)) hd rfl rfl rfl (rfl) ⟨Nat.le_refl _, Nat.le_refl _⟩ k
theorem R_ishl {x y : Int32} (hd : decode mi.2.1 pc = .ok (.ishl, 1))  (k : Rn sA mi (pc + 1) ls (.int (x <<< (y &&& 31)) :: st) (h, z) Q) : Rn sA mi pc ls (.int y :: .int x :: st) (h, z) Q :=
  Rn.step (H' := (h, z)) hd rfl rfl rfl (rfl) ⟨Nat.le_refl _, Nat.le_refl _⟩ k
theorem R_ishr {x y : Int32} (hd : decode mi.2.1 pc = .ok (.ishr, 1))  (k : Rn sA mi (pc + 1) ls (.int (x >>> (y &&& 31)) :: st) (h, z) Q) : Rn sA mi pc ls (.int y :: .int x :: st) (h, z) Q :=
  Rn.step (H' := (h, z)) hd rfl rfl rfl (rfl) ⟨Nat.le_refl _, Nat.le_refl _⟩ k
theorem R_idiv {x y : Int32} (hd : decode mi.2.1 pc = .ok (.idiv, 1)) (hy : ¬ y = 0) (k : Rn sA mi (pc + 1) ls (.int (x / y) :: st) (h, z) Q) : Rn sA mi pc ls (.int y :: .int x :: st) (h, z) Q :=
  Rn.step (H' := (h, z)) hd rfl rfl rfl (by simp [am_step, am_i2, hy]) ⟨Nat.le_refl _, Nat.le_refl _⟩ k
theorem R_irem {x y : Int32} (hd : decode mi.2.1 pc = .ok (.irem, 1)) (hy : ¬ y = 0) (k : Rn sA mi (pc + 1) ls (.int (x - x / y * y) :: st) (h, z) Q) : Rn sA mi pc ls (.int y :: .int x :: st) (h, z) Q :=
  Rn.step (H' := (h, z)) hd rfl rfl rfl (by simp [am_step, am_i2, hy]) ⟨Nat.le_refl _, Nat.le_refl _⟩ k
theorem R_ineg {x : Int32} (hd : decode mi.2.1 pc = .ok (.ineg, 1))  (k : Rn sA mi (pc + 1) ls (.int (-x) :: st) (h, z) Q) : Rn sA mi pc ls (.int x :: st) (h, z) Q :=
  Rn.step (H' := (h, z)) hd rfl rfl rfl (rfl) ⟨Nat.le_refl _, Nat.le_refl _⟩ k
theorem R_ladd {x y : Int64} (hd : decode mi.2.1 pc = .ok (.ladd, 1))  (k : Rn sA mi (pc + 1) ls (.long (x + y) :: st) (h, z) Q) : Rn sA mi pc ls (.long y :: .long x :: st) (h, z) Q :=
  Rn.step (H' := (h, z)) hd rfl rfl rfl (rfl) ⟨Nat.le_refl _, Nat.le_refl _⟩ k
theorem R_lmul {x y : Int64} (hd : decode mi.2.1 pc = .ok (.lmul, 1))  (k : Rn sA mi (pc + 1) ls (.long (x * y) :: st) (h, z) Q) : Rn sA mi pc ls (.long y :: .long x :: st) (h, z) Q :=
  Rn.step (H' := (h, z)) hd rfl rfl rfl (rfl) ⟨Nat.le_refl _, Nat.le_refl _⟩ k
theorem R_ldiv {x y : Int64} (hd : decode mi.2.1 pc = .ok (.ldiv, 1)) (hy : ¬ y = 0) (k : Rn sA mi (pc + 1) ls (.long (x / y) :: st) (h, z) Q) : Rn sA mi pc ls (.long y :: .long x :: st) (h, z) Q :=
  Rn.step (H' := (h, z)) hd rfl rfl rfl (by simp [am_step, am_l2, hy]) ⟨Nat.le_refl _, Nat.le_refl _⟩ k
theorem R_lcmp {x y : Int64} (hd : decode mi.2.1 pc = .ok (.lcmp, 1))  (k : Rn sA mi (pc + 1) ls (.int (lg_cmp x y) :: st) (h, z) Q) : Rn sA mi pc ls (.long y :: .long x :: st) (h, z) Q :=
  Rn.step (H' := (h, z)) hd rfl rfl rfl (rfl) ⟨Nat.le_refl _, Nat.le_refl _⟩ k
theorem R_i2l {x : Int32} (hd : decode mi.2.1 pc = .ok (.i2l, 1))  (k : Rn sA mi (pc + 1) ls (.long x.toInt64 :: st) (h, z) Q) : Rn sA mi pc ls (.int x :: st) (h, z) Q :=
  Rn.step (H' := (h, z)) hd rfl rfl rfl (rfl) ⟨Nat.le_refl _, Nat.le_refl _⟩ k
theorem R_l2i {x : Int64} (hd : decode mi.2.1 pc = .ok (.l2i, 1))  (k : Rn sA mi (pc + 1) ls (.int x.toInt32 :: st) (h, z) Q) : Rn sA mi pc ls (.long x :: st) (h, z) Q :=
  Rn.step (H' := (h, z)) hd rfl rfl rfl (rfl) ⟨Nat.le_refl _, Nat.le_refl _⟩ k
theorem R_l2f {x : Int64} (hd : decode mi.2.1 pc = .ok (.l2f, 1))  (k : Rn sA mi (pc + 1) ls (.float (FP.l2f x) :: st) (h, z) Q) : Rn sA mi pc ls (.long x :: st) (h, z) Q :=
  Rn.step (H' := (h, z)) hd rfl rfl rfl (rfl) ⟨Nat.le_refl _, Nat.le_refl _⟩ k
theorem R_i2f {x : Int32} (hd : decode mi.2.1 pc = .ok (.i2f, 1))  (k : Rn sA mi (pc + 1) ls (.float (FP.i2f x) :: st) (h, z) Q) : Rn sA mi pc ls (.int x :: st) (h, z) Q :=
  Rn.step (H' := (h, z)) hd rfl rfl rfl (rfl) ⟨Nat.le_refl _, Nat.le_refl _⟩ k
theorem R_f2d {x : UInt32} (hd : decode mi.2.1 pc = .ok (.f2d, 1)) (hn : vf_n64 (FP.f2d x)) (k : Rn sA mi (pc + 1) ls (.double (FP.f2d x) :: st) (h, z) Q) : Rn sA mi pc ls (.float x :: st) (h, z) Q :=
  Rn.step (H' := (h, z)) hd rfl rfl rfl (by have hn2 : FP.f2d x &&& 0x7fffffffffffffff ≤ 0x7ff0000000000000 := hn; simp [am_step, am_u1, am_n64, hn2]) ⟨Nat.le_refl _, Nat.le_refl _⟩ k
theorem R_fdiv {x y : UInt32} (hd : decode mi.2.1 pc = .ok (.fdiv, 1)) (hn : vf_n32 (FP.fdiv x y)) (k : Rn sA mi (pc + 1) ls (.float (FP.fdiv x y) :: st) (h, z) Q) : Rn sA mi pc ls (.float y :: .float x :: st) (h, z) Q :=
  Rn.step (H' := (h, z)) hd rfl rfl rfl (by have hn2 : FP.fdiv x y &&& 0x7fffffff ≤ 0x7f800000 := hn; simp [am_step, am_f2, am_n32, am_pushO, hn2]) ⟨Nat.le_refl _, Nat.le_refl _⟩ k
theorem R_dcmp {x y : UInt64} {op : CmpOp} (hd : decode mi.2.1 pc = .ok (.dcmp op, 1))  (k : Rn sA mi (pc + 1) ls (.int (Op.cmpValue (FP.dcmp x y) op) :: st) (h, z) Q) : Rn sA mi pc ls (.double y :: .double x :: st) (h, z) Q :=
  Rn.step (H' := (h, z)) hd rfl rfl rfl (rfl) ⟨Nat.le_refl _, Nat.le_refl _⟩ k
theorem R_fcmp {x y : UInt32} {op : CmpOp} (hd : decode mi.2.1 pc = .ok (.fcmp op, 1))  (k : Rn sA mi (pc + 1) ls (.int (Op.cmpValue (FP.fcmp x y) op) :: st) (h, z) Q) : Rn sA mi pc ls (.float y :: .float x :: st) (h, z) Q :=
  Rn.step (H' := (h, z)) hd rfl rfl rfl (rfl) ⟨Nat.le_refl _, Nat.le_refl _⟩ k
theorem R_dup {v : Value} (hd : decode mi.2.1 pc = .ok (.dup, 1)) (hv : v.category = 1) (k : Rn sA mi (pc + 1) ls (v :: v :: st) (h, z) Q) : Rn sA mi pc ls (v :: st) (h, z) Q :=
  Rn.step (H' := (h, z)) hd rfl rfl rfl (by simp [am_step, am_dup, hv]) ⟨Nat.le_refl _, Nat.le_refl _⟩ k
theorem R_dup2 {v u : Value} (hd : decode mi.2.1 pc = .ok (.dup2, 1)) (hv : v.category = 1) (hu : u.category = 1) (k : Rn sA mi (pc + 1) ls (v :: u :: v :: u :: st) (h, z) Q) : Rn sA mi pc ls (v :: u :: st) (h, z) Q :=
  Rn.step (H' := (h, z)) hd rfl rfl rfl (by simp [am_step, am_dup2, hv, hu]) ⟨Nat.le_refl _, Nat.le_refl _⟩ k
theorem R_goto {off : Int} {t : Nat} (hd : decode mi.2.1 pc = .ok (.goto off, 3)) (ht : (pc : Int) + off = (t : Int)) (k : Rn sA mi t ls st (h, z) Q) : Rn sA mi pc ls st (h, z) Q :=
  Rn.step (H' := (h, z)) hd rfl rfl rfl (by simp only [am_step, am_tgt, ht]; simp) ⟨Nat.le_refl _, Nat.le_refl _⟩ k
theorem R_if_eq {x : Int32} {off : Int} {t : Nat} (hd : decode mi.2.1 pc = .ok (.ifCond .eq off, 3)) (ht : (pc : Int) + off = (t : Int)) (k1 : x = 0 → Rn sA mi t ls st (h, z) Q) (k2 : ¬ x = 0 → Rn sA mi (pc + 3) ls st (h, z) Q) : Rn sA mi pc ls (.int x :: st) (h, z) Q := by
  by_cases hc : x = 0
  · exact Rn.step hd rfl rfl rfl (by simp only [am_step, am_if1, am_c1, ht]; simp [hc]) ⟨Nat.le_refl _, Nat.le_refl _⟩ (k1 hc)
  · exact Rn.step hd rfl rfl rfl (by simp only [am_step, am_if1, am_c1, ht]; simp [hc]) ⟨Nat.le_refl _, Nat.le_refl _⟩ (k2 hc)
theorem R_icmp_eq {x y : Int32} {off : Int} {t : Nat} (hd : decode mi.2.1 pc = .ok (.if_icmp .eq off, 3)) (ht : (pc : Int) + off = (t : Int)) (k1 : x = y → Rn sA mi t ls st (h, z) Q) (k2 : ¬ x = y → Rn sA mi (pc + 3) ls st (h, z) Q) : Rn sA mi pc ls (.int y :: .int x :: st) (h, z) Q := by
  by_cases hc : x = y
  · exact Rn.step hd rfl rfl rfl (by simp only [am_step, am_if2, am_c2, ht]; simp [hc]) ⟨Nat.le_refl _, Nat.le_refl _⟩ (k1 hc)
  · exact Rn.step hd rfl rfl rfl (by simp only [am_step, am_if2, am_c2, ht]; simp [hc]) ⟨Nat.le_refl _, Nat.le_refl _⟩ (k2 hc)
theorem R_if_ne {x : Int32} {off : Int} {t : Nat} (hd : decode mi.2.1 pc = .ok (.ifCond .ne off, 3)) (ht : (pc : Int) + off = (t : Int)) (k1 : ¬ x = 0 → Rn sA mi t ls st (h, z) Q) (k2 : x = 0 → Rn sA mi (pc + 3) ls st (h, z) Q) : Rn sA mi pc ls (.int x :: st) (h, z) Q := by
  by_cases hc : ¬ x = 0
  · exact Rn.step hd rfl rfl rfl (by simp only [am_step, am_if1, am_c1, ht]; simp [hc]) ⟨Nat.le_refl _, Nat.le_refl _⟩ (k1 hc)
  · exact Rn.step hd rfl rfl rfl (by simp only [am_step, am_if1, am_c1, ht]; simp [hc]) ⟨Nat.le_refl _, Nat.le_refl _⟩ (k2 (Decidable.not_not.mp hc))
theorem R_icmp_ne {x y : Int32} {off : Int} {t : Nat} (hd : decode mi.2.1 pc = .ok (.if_icmp .ne off, 3)) (ht : (pc : Int) + off = (t : Int)) (k1 : ¬ x = y → Rn sA mi t ls st (h, z) Q) (k2 : x = y → Rn sA mi (pc + 3) ls st (h, z) Q) : Rn sA mi pc ls (.int y :: .int x :: st) (h, z) Q := by
  by_cases hc : ¬ x = y
  · exact Rn.step hd rfl rfl rfl (by simp only [am_step, am_if2, am_c2, ht]; simp [hc]) ⟨Nat.le_refl _, Nat.le_refl _⟩ (k1 hc)
  · exact Rn.step hd rfl rfl rfl (by simp only [am_step, am_if2, am_c2, ht]; simp [hc]) ⟨Nat.le_refl _, Nat.le_refl _⟩ (k2 (Decidable.not_not.mp hc))
theorem R_if_lt {x : Int32} {off : Int} {t : Nat} (hd : decode mi.2.1 pc = .ok (.ifCond .lt off, 3)) (ht : (pc : Int) + off = (t : Int)) (k1 : x < 0 → Rn sA mi t ls st (h, z) Q) (k2 : ¬ x < 0 → Rn sA mi (pc + 3) ls st (h, z) Q) : Rn sA mi pc ls (.int x :: st) (h, z) Q := by
  by_cases hc : x < 0
  · exact Rn.step hd rfl rfl rfl (by simp only [am_step, am_if1, am_c1, ht]; simp [hc]) ⟨Nat.le_refl _, Nat.le_refl _⟩ (k1 hc)
  · exact Rn.step hd rfl rfl rfl (by simp only [am_step, am_if1, am_c1, ht]; simp [hc]) ⟨Nat.le_refl _, Nat.le_refl _⟩ (k2 hc)
theorem R_icmp_lt {x y : Int32} {off : Int} {t : Nat} (hd : decode mi.2.1 pc = .ok (.if_icmp .lt off, 3)) (ht : (pc : Int) + off = (t : Int)) (k1 : x < y → Rn sA mi t ls st (h, z) Q) (k2 : ¬ x < y → Rn sA mi (pc + 3) ls st (h, z) Q) : Rn sA mi pc ls (.int y :: .int x :: st) (h, z) Q := by
  by_cases hc : x < y
  · exact Rn.step hd rfl rfl rfl (by simp only [am_step, am_if2, am_c2, ht]; simp [hc]) ⟨Nat.le_refl _, Nat.le_refl _⟩ (k1 hc)
  · exact Rn.step hd rfl rfl rfl (by simp only [am_step, am_if2, am_c2, ht]; simp [hc]) ⟨Nat.le_refl _, Nat.le_refl _⟩ (k2 hc)
theorem R_if_ge {x : Int32} {off : Int} {t : Nat} (hd : decode mi.2.1 pc = .ok (.ifCond .ge off, 3)) (ht : (pc : Int) + off = (t : Int)) (k1 : 0 ≤ x → Rn sA mi t ls st (h, z) Q) (k2 : ¬ 0 ≤ x → Rn sA mi (pc + 3) ls st (h, z) Q) : Rn sA mi pc ls (.int x :: st) (h, z) Q := by
  by_cases hc : 0 ≤ x
  · exact Rn.step hd rfl rfl rfl (by simp only [am_step, am_if1, am_c1, ht]; simp [hc]) ⟨Nat.le_refl _, Nat.le_refl _⟩ (k1 hc)
  · exact Rn.step hd rfl rfl rfl (by simp only [am_step, am_if1, am_c1, ht]; simp [hc]) ⟨Nat.le_refl _, Nat.le_refl _⟩ (k2 hc)
theorem R_icmp_ge {x y : Int32} {off : Int} {t : Nat} (hd : decode mi.2.1 pc = .ok (.if_icmp .ge off, 3)) (ht : (pc : Int) + off = (t : Int)) (k1 : y ≤ x → Rn sA mi t ls st (h, z) Q) (k2 : ¬ y ≤ x → Rn sA mi (pc + 3) ls st (h, z) Q) : Rn sA mi pc ls (.int y :: .int x :: st) (h, z) Q := by
  by_cases hc : y ≤ x
  · exact Rn.step hd rfl rfl rfl (by simp only [am_step, am_if2, am_c2, ht]; simp [hc]) ⟨Nat.le_refl _, Nat.le_refl _⟩ (k1 hc)
  · exact Rn.step hd rfl rfl rfl (by simp only [am_step, am_if2, am_c2, ht]; simp [hc]) ⟨Nat.le_refl _, Nat.le_refl _⟩ (k2 hc)
theorem R_if_gt {x : Int32} {off : Int} {t : Nat} (hd : decode mi.2.1 pc = .ok (.ifCond .gt off, 3)) (ht : (pc : Int) + off = (t : Int)) (k1 : 0 < x → Rn sA mi t ls st (h, z) Q) (k2 : ¬ 0 < x → Rn sA mi (pc + 3) ls st (h, z) Q) : Rn sA mi pc ls (.int x :: st) (h, z) Q := by
  by_cases hc : 0 < x
  · exact Rn.step hd rfl rfl rfl (by simp only [am_step, am_if1, am_c1, ht]; simp [hc]) ⟨Nat.le_refl _, Nat.le_refl _⟩ (k1 hc)
  · exact Rn.step hd rfl rfl rfl (by simp only [am_step, am_if1, am_c1, ht]; simp [hc]) ⟨Nat.le_refl _, Nat.le_refl _⟩ (k2 hc)
theorem R_icmp_gt {x y : Int32} {off : Int} {t : Nat} (hd : decode mi.2.1 pc = .ok (.if_icmp .gt off, 3)) (ht : (pc : Int) + off = (t : Int)) (k1 : y < x → Rn sA mi t ls st (h, z) Q) (k2 : ¬ y < x → Rn sA mi (pc + 3) ls st (h, z) Q) : Rn sA mi pc ls (.int y :: .int x :: st) (h, z) Q := by
  by_cases hc : y < x
  · exact Rn.step hd rfl rfl rfl (by simp only [am_step, am_if2, am_c2, ht]; simp [hc]) ⟨Nat.le_refl _, Nat.le_refl _⟩ (k1 hc)
  · exact Rn.step hd rfl rfl rfl (by simp only [am_step, am_if2, am_c2, ht]; simp [hc]) ⟨Nat.le_refl _, Nat.le_refl _⟩ (k2 hc)
theorem R_if_le {x : Int32} {off : Int} {t : Nat} (hd : decode mi.2.1 pc = .ok (.ifCond .le off, 3)) (ht : (pc : Int) + off = (t : Int)) (k1 : x ≤ 0 → Rn sA mi t ls st (h, z) Q) (k2 : ¬ x ≤ 0 → Rn sA mi (pc + 3) ls st (h, z) Q) : Rn sA mi pc ls (.int x :: st) (h, z) Q := by
  by_cases hc : x ≤ 0
  · exact Rn.step hd rfl rfl rfl (by simp only [am_step, am_if1, am_c1, ht]; simp [hc]) ⟨Nat.le_refl _, Nat.le_refl _⟩ (k1 hc)
  · exact Rn.step hd rfl rfl rfl (by simp only [am_step, am_if1, am_c1, ht]; simp [hc]) ⟨Nat.le_refl _, Nat.le_refl _⟩ (k2 hc)
theorem R_icmp_le {x y : Int32} {off : Int} {t : Nat} (hd : decode mi.2.1 pc = .ok (.if_icmp .le off, 3)) (ht : (pc : Int) + off = (t : Int)) (k1 : x ≤ y → Rn sA mi t ls st (h, z) Q) (k2 : ¬ x ≤ y → Rn sA mi (pc + 3) ls st (h, z) Q) : Rn sA mi pc ls (.int y :: .int x :: st) (h, z) Q := by
  by_cases hc : x ≤ y
  · exact Rn.step hd rfl rfl rfl (by simp only [am_step, am_if2, am_c2, ht]; simp [hc]) ⟨Nat.le_refl _, Nat.le_refl _⟩ (k1 hc)
  · exact Rn.step hd rfl rfl rfl (by simp only [am_step, am_if2, am_c2, ht]; simp [hc]) ⟨Nat.le_refl _, Nat.le_refl _⟩ (k2 hc)
theorem R_ifnn {off : Int} {t a : Nat} (hd : decode mi.2.1 pc = .ok (.ifnonnull off, 3)) (ht : (pc : Int) + off = (t : Int)) (k : Rn sA mi t ls st (h, z) Q) : Rn sA mi pc ls (.ref a :: st) (h, z) Q :=
  Rn.step (H' := (h, z)) hd rfl rfl rfl (by simp only [am_step, am_nn, am_tgt, ht]; simp) ⟨Nat.le_refl _, Nat.le_refl _⟩ k
theorem R_ifnnN {off : Int} (hd : decode mi.2.1 pc = .ok (.ifnonnull off, 3))  (k : Rn sA mi (pc + 3) ls st (h, z) Q) : Rn sA mi pc ls (.null :: st) (h, z) Q :=
  Rn.step (H' := (h, z)) hd rfl rfl rfl (rfl) ⟨Nat.le_refl _, Nat.le_refl _⟩ k
theorem R_tswO {d lo hi : Int} {offs : Array Int} {n0 t : Nat} {x : Int32} (hd : decode mi.2.1 pc = .ok (.tableswitch d lo hi offs, n0)) (hx : x.toInt < lo ∨ hi < x.toInt) (ht : (pc : Int) + d = (t : Int)) (k : Rn sA mi t ls st (h, z) Q) : Rn sA mi pc ls (.int x :: st) (h, z) Q :=
  Rn.step (H' := (h, z)) hd rfl rfl rfl (by simp only [am_step, am_tsw, am_tgt, ht, if_pos hx]; simp) ⟨Nat.le_refl _, Nat.le_refl _⟩ k
theorem R_tswI {d lo hi off : Int} {offs : Array Int} {n0 t : Nat} {x : Int32} (hd : decode mi.2.1 pc = .ok (.tableswitch d lo hi offs, n0)) (hx : ¬ (x.toInt < lo ∨ hi < x.toInt)) (ho : offs[(x.toInt - lo).toNat]? = some off) (ht : (pc : Int) + off = (t : Int)) (k : Rn sA mi t ls st (h, z) Q) : Rn sA mi pc ls (.int x :: st) (h, z) Q :=
  Rn.step (H' := (h, z)) hd rfl rfl rfl (by simp only [am_step, am_tsw, am_tgt, if_neg hx, ho, ht]; simp) ⟨Nat.le_refl _, Nat.le_refl _⟩ k
theorem R_lsw {d off : Int} {ps : Array (Int × Int)} {n0 t : Nat} {x : Int32} (hd : decode mi.2.1 pc = .ok (.lookupswitch d ps, n0)) (hp : (ps.toList.zip (ps.toList.drop 1)).all (fun (a, next) => a.1 < next.1) = true) (ho : Op.lookupswitch.offset ps.toList d x.toInt = off) (ht : (pc : Int) + off = (t : Int)) (k : Rn sA mi t ls st (h, z) Q) : Rn sA mi pc ls (.int x :: st) (h, z) Q :=
  Rn.step (H' := (h, z)) hd rfl rfl rfl (by simp only [am_step, am_lsw, am_tgt, if_pos hp, ho, ht]; simp) ⟨Nat.le_refl _, Nat.le_refl _⟩ k
theorem R_getf {a cp ci kf : Nat} {fs : List Value} {v : Value} (hd : decode mi.2.1 pc = .ok (.getfield cp, 3)) (hlk : (am_fldL mi.1).lookup cp = some (ci, kf)) (ha : h a = some (.inr (ci, fs))) (hv : fs[kf]? = some v) (k : Rn sA mi (pc + 3) ls (v :: st) (h, z) Q) : Rn sA mi pc ls (.ref a :: st) (h, z) Q :=
  Rn.step (H' := (h, z)) hd rfl rfl rfl (by simp [am_step, am_getf, hlk, ha, hv]) ⟨Nat.le_refl _, Nat.le_refl _⟩ k
theorem R_putf {a cp ci kf : Nat} {fs fs2 : List Value} {v : Value} (hd : decode mi.2.1 pc = .ok (.putfield cp, 3)) (hlk : (am_fldL mi.1).lookup cp = some (ci, kf)) (ha : h a = some (.inr (ci, fs))) (hok : am_okv (am_tys ci kf) v = true) (hf : am_fin ci kf = false ∨ (am_ini mi = true ∧ ci = mi.1)) (hs : fs.set kf v = fs2) (k : Rn sA mi (pc + 3) ls st (va_up h a (some (.inr (ci, fs2))), z) Q) : Rn sA mi pc ls (v :: .ref a :: st) (h, z) Q :=
  Rn.step (H' := (va_up h a (some (.inr (ci, fs2))), z)) hd rfl rfl rfl (by subst hs; simp only [am_step, am_putf, hlk, ha]; rw [if_pos ⟨trivial, hok, hf⟩]) ⟨Nat.le_refl _, Nat.le_refl _⟩ k
theorem R_gets  (hd : decode mi.2.1 pc = .ok (.getstatic 99, 3)) (hc : mi.1 = 11) (k : Rn sA mi (pc + 3) ls (.ref sA :: st) (h, z) Q) : Rn sA mi pc ls st (h, z) Q :=
  Rn.step (H' := (h, z)) hd rfl rfl rfl (by simp [am_step, am_gets, hc]) ⟨Nat.le_refl _, Nat.le_refl _⟩ k
theorem R_new {cp ci n : Nat} {fs : List Value} (hd : decode mi.2.1 pc = .ok (.new cp, 3)) (hlk : (am_newL mi.1).lookup cp = some ci) (hf : am_bl ci = fs) (hn : am_nf ci = n) (k : Rn sA mi (pc + 3) ls (.ref z.1 :: st) (va_up h z.1 (some (.inr (ci, fs))), z.1 + 1, z.2 + n) Q) : Rn sA mi pc ls st (h, z) Q :=
  Rn.step (H' := (va_up h z.1 (some (.inr (ci, fs))), z.1 + 1, z.2 + n)) hd rfl rfl rfl (by subst hf; subst hn; simp [am_step, am_new, hlk]) ⟨Nat.le_succ _, Nat.le_add_right _ _⟩ k
theorem R_newa {i : Int32} {n : Nat} (hd : decode mi.2.1 pc = .ok (.newarray .int, 2)) (hi : i = nI n) (hn : n ≤ 100000) (k : Rn sA mi (pc + 2) ls (.ref z.1 :: st) (va_up h z.1 (some (.inl (0, n, .inl (fun _ => 0)))), z.1 + 1, z.2 + n) Q) : Rn sA mi pc ls (.int i :: st) (h, z) Q :=
  Rn.step (H' := (va_up h z.1 (some (.inl (0, n, .inl (fun _ => 0)))), z.1 + 1, z.2 + n)) hd rfl rfl rfl (by have h1 := am_iM hi hn; simp only [am_step, am_newa, if_true]; rw [if_pos ⟨h1.1, by rw [h1.2]; exact hn⟩, h1.2]) ⟨Nat.le_succ _, Nat.le_add_right _ _⟩ k
theorem R_anew {i : Int32} {n cp t : Nat} (hd : decode mi.2.1 pc = .ok (.anewarray cp, 3)) (hlk : (am_anL mi.1).lookup cp = some t) (hi : i = nI n) (hn : n ≤ 100000) (k : Rn sA mi (pc + 3) ls (.ref z.1 :: st) (va_up h z.1 (some (.inl (t, n, .inr (.inr (.inr (.inr (fun _ => none))))))), z.1 + 1, z.2 + n) Q) : Rn sA mi pc ls (.int i :: st) (h, z) Q :=
  Rn.step (H' := (va_up h z.1 (some (.inl (t, n, .inr (.inr (.inr (.inr (fun _ => none))))))), z.1 + 1, z.2 + n)) hd rfl rfl rfl (by have h1 := am_iM hi hn; simp only [am_step, am_anew, hlk]; rw [if_pos ⟨h1.1, by rw [h1.2]; exact hn⟩, h1.2]) ⟨Nat.le_succ _, Nat.le_add_right _ _⟩ k
theorem R_iald {a t n j : Nat} {i : Int32} {f : Nat → Int32} (hd : decode mi.2.1 pc = .ok (.iaload, 1)) (ha : h a = some (.inl (t, n, .inl f))) (ht : t = 0 ∨ t = 9) (hi : i = nI j) (hj : j < n) (hn : n ≤ 100000) (k : Rn sA mi (pc + 1) ls (.int (f j) :: st) (h, z) Q) : Rn sA mi pc ls (.int i :: .ref a :: st) (h, z) Q :=
  Rn.step (H' := (h, z)) hd rfl rfl rfl (by have h1 := am_iN hi hj hn; simp only [am_step, am_iald, ha]; rw [if_pos ⟨ht, h1.1, h1.2.1⟩, h1.2.2]) ⟨Nat.le_refl _, Nat.le_refl _⟩ k
theorem R_iast {a n j : Nat} {i x : Int32} {f : Nat → Int32} (hd : decode mi.2.1 pc = .ok (.iastore, 1)) (ha : h a = some (.inl (0, n, .inl f))) (hi : i = nI j) (hj : j < n) (hn : n ≤ 100000) (k : Rn sA mi (pc + 1) ls st (va_up h a (some (.inl (0, n, .inl (upd f j x)))), z) Q) : Rn sA mi pc ls (.int x :: .int i :: .ref a :: st) (h, z) Q :=
  Rn.step (H' := (va_up h a (some (.inl (0, n, .inl (upd f j x)))), z)) hd rfl rfl rfl (by have h1 := am_iN hi hj hn; simp only [am_step, am_iast, ha]; rw [if_pos ⟨trivial, h1.1, h1.2.1⟩, h1.2.2]) ⟨Nat.le_refl _, Nat.le_refl _⟩ k
theorem R_aald {a t n j : Nat} {i : Int32} {f : Nat → Option Nat} {v : Value} (hd : decode mi.2.1 pc = .ok (.aaload, 1)) (ha : h a = some (.inl (t, n, .inr (.inr (.inr (.inr f)))))) (ht : 0 < t ∧ t < 4) (hi : i = nI j) (hj : j < n) (hn : n ≤ 100000) (hv : va_rf (f j) = v) (k : Rn sA mi (pc + 1) ls (v :: st) (h, z) Q) : Rn sA mi pc ls (.int i :: .ref a :: st) (h, z) Q :=
  Rn.step (H' := (h, z)) hd rfl rfl rfl (by have h1 := am_iN hi hj hn; subst hv; simp only [am_step, am_aald, ha]; rw [if_pos ⟨ht, h1.1, h1.2.1⟩, h1.2.2]) ⟨Nat.le_refl _, Nat.le_refl _⟩ k
theorem R_aast {a b t n j ci : Nat} {i : Int32} {f : Nat → Option Nat} {fs : List Value} (hd : decode mi.2.1 pc = .ok (.aastore, 1)) (ha : h a = some (.inl (t, n, .inr (.inr (.inr (.inr f)))))) (hb : h b = some (.inr (ci, fs))) (ht : (0 < t ∧ t < 4) ∧ ci = am_comp t) (hi : i = nI j) (hj : j < n) (hn : n ≤ 100000) (k : Rn sA mi (pc + 1) ls st (va_up h a (some (.inl (t, n, .inr (.inr (.inr (.inr (va_up f j (some b)))))))), z) Q) : Rn sA mi pc ls (.ref b :: .int i :: .ref a :: st) (h, z) Q :=
  Rn.step (H' := (va_up h a (some (.inl (t, n, .inr (.inr (.inr (.inr (va_up f j (some b)))))))), z)) hd rfl rfl rfl (by have h1 := am_iN hi hj hn; simp only [am_step, am_aast, ha, hb]; rw [if_pos ⟨ht, h1.1, h1.2.1⟩, h1.2.2]) ⟨Nat.le_refl _, Nat.le_refl _⟩ k
theorem R_alen {a t n : Nat} {f : Nat → Int32} (hd : decode mi.2.1 pc = .ok (.arraylength, 1)) (ha : h a = some (.inl (t, n, .inl f))) (ht : t = 0 ∨ t = 9) (k : Rn sA mi (pc + 1) ls (.int (nI n) :: st) (h, z) Q) : Rn sA mi pc ls (.ref a :: st) (h, z) Q :=
  Rn.step (H' := (h, z)) hd rfl rfl rfl (by simp only [am_step, am_alen, ha]; rw [if_pos ht]; rfl) ⟨Nat.le_refl _, Nat.le_refl _⟩ k
theorem R_obj {a cp : Nat} (hd : decode mi.2.1 pc = .ok (.invokespecial cp, 3)) (hsp : (am_spL mi.1).lookup cp = some 0) (hcl : (am_callL mi.1).lookup cp = none) (hr : 1 ≤ mi.2.2.2.2.2.1 ∧ am_cat st + 12 ≤ mi.2.2.2.2.2.2) (k : Rn sA mi (pc + 3) ls st (h, z) Q) : Rn sA mi pc ls (.ref a :: st) (h, z) Q :=
  Rn.step hd rfl rfl (by simp only [am_call, hcl]) (by simp only [am_step, am_objI, hsp, am_obj]; rw [if_pos hr]) ⟨Nat.le_refl _, Nat.le_refl _⟩ k
theorem R_min {cp : Nat} {x y : Int32} (hd : decode mi.2.1 pc = .ok (.invokestatic cp, 3)) (hsp : (am_spL mi.1).lookup cp = some 2) (hcl : (am_callL mi.1).lookup cp = none) (hr : 1 ≤ mi.2.2.2.2.2.1 ∧ am_cat st + 13 ≤ mi.2.2.2.2.2.2) (k : Rn sA mi (pc + 3) ls (.int (if y < x then y else x) :: st) (h, z) Q) : Rn sA mi pc ls (.int y :: .int x :: st) (h, z) Q :=
  Rn.step hd rfl rfl (by simp only [am_call, hcl]) (by simp only [am_step, am_special, hsp, am_min]; rw [if_pos hr]) ⟨Nat.le_refl _, Nat.le_refl _⟩ k
theorem R_abs {cp : Nat} {x : Int32} (hd : decode mi.2.1 pc = .ok (.invokestatic cp, 3)) (hsp : (am_spL mi.1).lookup cp = some 3) (hcl : (am_callL mi.1).lookup cp = none) (hr : 1 ≤ mi.2.2.2.2.2.1 ∧ am_cat st + 13 ≤ mi.2.2.2.2.2.2) (k : Rn sA mi (pc + 3) ls (.int (if 0 ≤ x then x else 0 - x) :: st) (h, z) Q) : Rn sA mi pc ls (.int x :: st) (h, z) Q :=
  Rn.step hd rfl rfl (by simp only [am_call, hcl]) (by simp only [am_step, am_special, hsp, am_abs]; rw [if_pos hr]) ⟨Nat.le_refl _, Nat.le_refl _⟩ k
theorem R_copy {cp a a0 n0 n1 p q n : Nat} {i0 i1 i2 : Int32} {f f1 : Nat → Int32} (hd : decode mi.2.1 pc = .ok (.invokestatic cp, 3)) (hsp : (am_spL mi.1).lookup cp = some 1) (hcl : (am_callL mi.1).lookup cp = none) (ha0 : h a0 = some (.inl (0, n0, .inl f))) (ha : h a = some (.inl (0, n1, .inl f1))) (h0 : i0 = nI p) (h1 : i1 = nI q) (h2 : i2 = nI n) (hn : n0 ≤ 100000 ∧ n1 ≤ 100000) (hb : p + n ≤ n0 ∧ q + n ≤ n1) (hr : 1 ≤ mi.2.2.2.2.2.1 ∧ am_cat st + 18 ≤ mi.2.2.2.2.2.2)
    (k : Rn sA mi (pc + 3) ls st (va_up h a (some (.inl (0, n1, .inl (va_cpy f f1 p q n)))), z) Q) : Rn sA mi pc ls (.int i2 :: .int i1 :: .ref a :: .int i0 :: .ref a0 :: st) (h, z) Q := by
  obtain ⟨p0, p2⟩ := am_iM h0 (by omega)
  obtain ⟨q0, q2⟩ := am_iM h1 (by omega)
  obtain ⟨r0, r2⟩ := am_iM h2 (by omega)
  refine Rn.step (H' := (va_up h a (some (.inl (0, n1, .inl (va_cpy f f1 p q n)))), z)) hd rfl rfl (by simp only [am_call, hcl]) ?_ ⟨Nat.le_refl _, Nat.le_refl _⟩ k
  simp only [am_step, am_special, hsp, am_copy, ha0, ha]
  rw [if_pos ⟨⟨trivial, trivial⟩, ⟨p0, q0, r0⟩, ⟨by omega, by omega⟩, hr⟩, p2, q2, r2]
/-- calls: kd 0 of an object of a class of ours, 1 and 4 static, 2 and 5 constructors -/
theorem R_callV {cp n b : Nat} {mj : am_I} {As rest fs} (hd : decode mi.2.1 pc = .ok (.invokevirtual cp, 3)) (hlk : (am_callL mi.1).lookup cp = some (0, n, mj)) (hb : h b = some (.inr (mj.1, fs))) (hs : ((st.take n).reverse, st.drop n) = (As, .ref b :: rest)) (hc : (decide (As.length = n) && (Nat.ble (mj.2.2.2.2.2.1 + 1) mi.2.2.2.2.2.1 && (Nat.ble (8 + (mj.2.2.2.1 + 11) + mj.2.2.2.2.2.2) mi.2.2.2.2.2.2 && (Nat.ble (am_cat rest) 8 && Nat.ble (am_flat (.ref b :: As)).length mj.2.2.2.1)))) = true)
    (k : Rn sA mj 0 (am_entry (.ref b :: As) mj.2.2.2.1) [] (h, z) (fun r H' => Rn sA mi (pc + 3) ls (r.toList ++ rest) H' Q)) : Rn sA mi pc ls st (h, z) Q := by
  obtain ⟨e1, e2⟩ := Prod.mk.inj hs
  simp only [Bool.and_eq_true, decide_eq_true_eq, Nat.ble_eq] at hc
  obtain ⟨c1, c2, c3, c4, c5⟩ := hc
  refine Rn.call hd rfl rfl ?_ c5 k
  simp only [am_call, hlk, if_true, am_callS, e1, e2]
  rw [if_pos ⟨c1, c2, c3⟩, if_neg (by decide), if_pos c4]
  simp only [if_true, hb]
theorem R_callS {cp n kd : Nat} {mj : am_I} {As rest} (hd : decode mi.2.1 pc = .ok (.invokestatic cp, 3)) (hlk : (am_callL mi.1).lookup cp = some (kd, n, mj)) (hk : kd = 1 ∨ kd = 4) (hs : ((st.take n).reverse, st.drop n) = (As, rest)) (hc : (decide (As.length = n) && (Nat.ble (mj.2.2.2.2.2.1 + 1) mi.2.2.2.2.2.1 && (Nat.ble (8 + (mj.2.2.2.1 + 11) + mj.2.2.2.2.2.2) mi.2.2.2.2.2.2 && (Nat.ble (am_cat rest) 8 && Nat.ble (am_flat As).length mj.2.2.2.1)))) = true)
    (k : Rn sA mj 0 (am_entry As mj.2.2.2.1) [] (h, z) (fun r H' => Rn sA mi (pc + 3) ls (r.toList ++ rest) H' Q)) : Rn sA mi pc ls st (h, z) Q := by
  obtain ⟨e1, e2⟩ := Prod.mk.inj hs
  simp only [Bool.and_eq_true, decide_eq_true_eq, Nat.ble_eq] at hc
  obtain ⟨c1, c2, c3, c4, c5⟩ := hc
  refine Rn.call hd rfl rfl ?_ c5 k
  simp only [am_call, hlk, if_pos hk, am_callS, e1, e2]
  rw [if_pos ⟨c1, c2, c3⟩, if_pos c4]
theorem R_callI {cp n kd b : Nat} {mj : am_I} {As rest} (hd : decode mi.2.1 pc = .ok (.invokespecial cp, 3)) (hlk : (am_callL mi.1).lookup cp = some (kd, n, mj)) (hk : kd = 2 ∨ kd = 5) (hs : ((st.take n).reverse, st.drop n) = (As, .ref b :: rest)) (hc : (decide (As.length = n) && (Nat.ble (mj.2.2.2.2.2.1 + 1) mi.2.2.2.2.2.1 && (Nat.ble (8 + (mj.2.2.2.1 + 11) + mj.2.2.2.2.2.2) mi.2.2.2.2.2.2 && (Nat.ble (am_cat rest) 8 && Nat.ble (am_flat (.ref b :: As)).length mj.2.2.2.1)))) = true)
    (k : Rn sA mj 0 (am_entry (.ref b :: As) mj.2.2.2.1) [] (h, z) (fun r H' => Rn sA mi (pc + 3) ls (r.toList ++ rest) H' Q)) : Rn sA mi pc ls st (h, z) Q := by
  obtain ⟨e1, e2⟩ := Prod.mk.inj hs
  simp only [Bool.and_eq_true, decide_eq_true_eq, Nat.ble_eq] at hc
  obtain ⟨c1, c2, c3, c4, c5⟩ := hc
  refine Rn.call hd rfl rfl ?_ c5 k
  simp only [am_call, hlk, if_pos hk, am_callS, e1, e2]
  rw [if_pos ⟨c1, c2, c3⟩, if_neg (by rcases hk with rfl | rfl <;> decide), if_pos c4, if_neg (by rcases hk with rfl | rfl <;> decide)]
/-- ends -/
theorem R_iret {x : Int32} (hd : decode mi.2.1 pc = .ok (.ireturn, 1)) (ht : mi.2.2.2.2.1 = some .int) (q : Q (some (.int x)) (h, z)) : Rn sA mi pc ls [.int x] (h, z) Q := Rn.ret hd rfl (by simp only [am_ret, ht]) q
theorem R_zret {x : Int32} (hd : decode mi.2.1 pc = .ok (.ireturn, 1)) (ht : mi.2.2.2.2.1 = some .boolean) (hx : x = 0 ∨ x = 1) (q : Q (some (.int x)) (h, z)) : Rn sA mi pc ls [.int x] (h, z) Q := Rn.ret hd rfl (by simp only [am_ret, ht]; rw [if_pos hx]) q
theorem R_lret {x : Int64} (hd : decode mi.2.1 pc = .ok (.lreturn, 1)) (ht : mi.2.2.2.2.1 = some .long) (q : Q (some (.long x)) (h, z)) : Rn sA mi pc ls [.long x] (h, z) Q := Rn.ret hd rfl (by simp only [am_ret, ht]) q
theorem R_fret {x : UInt32} (hd : decode mi.2.1 pc = .ok (.freturn, 1)) (ht : mi.2.2.2.2.1 = some .float) (q : Q (some (.float x)) (h, z)) : Rn sA mi pc ls [.float x] (h, z) Q := Rn.ret hd rfl (by simp only [am_ret, ht]) q
theorem R_aret {x : Nat} {cn : String} (hd : decode mi.2.1 pc = .ok (.areturn, 1)) (ht : mi.2.2.2.2.1 = some (.object cn)) (q : Q (some (.ref x)) (h, z)) : Rn sA mi pc ls [.ref x] (h, z) Q := Rn.ret hd rfl (by simp only [am_ret, ht]) q
theorem R_vret (hd : decode mi.2.1 pc = .ok (.return_, 1)) (ht : mi.2.2.2.2.1 = none) (q : Q none (h, z)) : Rn sA mi pc ls [] (h, z) Q := Rn.ret hd rfl (by simp only [am_ret, ht]) q
end RNS
end
section
/-! a method that runs in a heap of its own runs in any heap that holds that one, its cells moved, and touches nothing else -/
section SIM
variable {φ : Nat → Nat} {H K H' K' H2 K2 : am_H} {sA : Nat}
def sm_v (φ : Nat → Nat) (v : Value) : Value := match v with
  | .ref a => .ref (φ a)
  | .int x => .int x
  | .long x => .long x
  | .float x => .float x
  | .double x => .double x
  | .null => .null
  | .retAddr x => .retAddr x
def sm_L (φ : Nat → Nat) (ls : am_L) : am_L := ls.map (Option.map (sm_v φ))
def sm_S (φ : Nat → Nat) (st : List Value) : List Value := st.map (sm_v φ)
def sm_A (φ : Nat → Nat) (x : (Nat → Int32) ⊕ (Nat → Int64) ⊕ (Nat → UInt32) ⊕ (Nat → UInt64) ⊕ (Nat → Option Nat)) : (Nat → Int32) ⊕ (Nat → Int64) ⊕ (Nat → UInt32) ⊕ (Nat → UInt64) ⊕ (Nat → Option Nat) := match x with
  | .inl f => .inl f
  | .inr (.inl f) => .inr (.inl f)
  | .inr (.inr (.inl f)) => .inr (.inr (.inl f))
  | .inr (.inr (.inr (.inl f))) => .inr (.inr (.inr (.inl f)))
  | .inr (.inr (.inr (.inr f))) => .inr (.inr (.inr (.inr (fun j => (f j).map φ))))
def sm_C (φ : Nat → Nat) (c : am_C) : am_C := match c with
  | .inl (t, n, x) => .inl (t, n, sm_A φ x)
  | .inr (ci, fs) => .inr (ci, sm_S φ fs)
def cl_v (z : Nat) (v : Value) : Prop := ∀ a, v = .ref a → a < z
def cl_S (z : Nat) (st : List Value) : Prop := ∀ v, v ∈ st → cl_v z v
def cl_L (z : Nat) (ls : am_L) : Prop := ∀ (i : Nat) (v : Value), ls[i]? = some (some v) → cl_v z v
def cl_A (z : Nat) (x : (Nat → Int32) ⊕ (Nat → Int64) ⊕ (Nat → UInt32) ⊕ (Nat → UInt64) ⊕ (Nat → Option Nat)) : Prop := match x with
  | .inl _ => True
  | .inr (.inl _) => True
  | .inr (.inr (.inl _)) => True
  | .inr (.inr (.inr (.inl _))) => True
  | .inr (.inr (.inr (.inr f))) => ∀ j a, f j = some a → a < z
def cl_C (z : Nat) (c : am_C) : Prop := match c with
  | .inl (_, _, x) => cl_A z x
  | .inr (_, fs) => cl_S z fs
/-- a cell that may be written -/
def wr_C (c : am_C) : Prop := match c with
  | .inl (t, _, _) => ¬ t = 9
  | .inr _ => True
def Emb (φ : Nat → Nat) (H K : am_H) : Prop := (∀ a b, φ a = φ b → a = b) ∧ (∀ a, H.2.1 ≤ a → φ a = K.2.1 + (a - H.2.1)) ∧ (∀ a, a < H.2.1 → φ a < K.2.1) ∧ ∀ a c, H.1 a = some c → a < H.2.1 ∧ cl_C H.2.1 c ∧ K.1 (φ a) = some (sm_C φ c)
def Fp (φ : Nat → Nat) (H : am_H) (b : Nat) : Prop := ∃ a c, H.1 a = some c ∧ wr_C c ∧ φ a = b
def SR (φ : Nat → Nat) (H K H' K' : am_H) : Prop := Emb φ H' K' ∧ (H.2.1 ≤ H'.2.1 ∧ H.2.2 ≤ H'.2.2) ∧ (K'.2.1 + H.2.1 = K.2.1 + H'.2.1 ∧ K'.2.2 + H.2.2 = K.2.2 + H'.2.2) ∧ (∀ b, b < K.2.1 → ¬ Fp φ H b → K'.1 b = K.1 b) ∧ ∀ b, Fp φ H' b → Fp φ H b ∨ K.2.1 ≤ b
theorem sm_cat (v : Value) : (sm_v φ v).category = v.category := by cases v <;> rfl
theorem sm_len (st : List Value) : (sm_S φ st).length = st.length := List.length_map _
theorem sm_lenL (ls : am_L) : (sm_L φ ls).length = ls.length := List.length_map _
theorem sm_cats (st : List Value) : am_cat (sm_S φ st) = am_cat st := by
  unfold am_cat sm_S
  rw [List.map_map]
  congr 1
  exact List.map_congr_left (fun v _ => sm_cat v)
theorem sm_get {ls : am_L} {i : Nat} {v : Value} (h : ls[i]? = some (some v)) : (sm_L φ ls)[i]? = some (some (sm_v φ v)) := by
  unfold sm_L
  rw [List.getElem?_map, h]
  rfl
theorem cl_v.up {z z' : Nat} {v : Value} (h : cl_v z v) (hz : z ≤ z') : cl_v z' v := fun a e => Nat.lt_of_lt_of_le (h a e) hz
theorem cl_S.up {z z' : Nat} {st : List Value} (h : cl_S z st) (hz : z ≤ z') : cl_S z' st := fun v hv => (h v hv).up hz
theorem cl_L.up {z z' : Nat} {ls : am_L} (h : cl_L z ls) (hz : z ≤ z') : cl_L z' ls := fun i v hv => (h i v hv).up hz
theorem cl_A.up {z z' : Nat} {x} (h : cl_A z x) (hz : z ≤ z') : cl_A z' x := by
  rcases x with f | f | f | f | f
  · trivial
  · trivial
  · trivial
  · trivial
  · exact fun j a e => Nat.lt_of_lt_of_le (h j a e) hz
theorem cl_C.up {z z' : Nat} {c : am_C} (h : cl_C z c) (hz : z ≤ z') : cl_C z' c := by
  rcases c with ⟨t, n, x⟩ | ⟨ci, fs⟩
  · exact cl_A.up (x := x) h hz
  · exact cl_S.up (st := fs) h hz
theorem cl_S.cons {z : Nat} {v : Value} {st : List Value} (h : cl_v z v) (h2 : cl_S z st) : cl_S z (v :: st) := fun w hw => by
  rcases List.mem_cons.mp hw with e | e
  · rw [e]; exact h
  · exact h2 w e
theorem cl_S.hd {z : Nat} {v : Value} {st : List Value} (h : cl_S z (v :: st)) : cl_v z v := h v List.mem_cons_self
theorem cl_S.tl {z : Nat} {v : Value} {st : List Value} (h : cl_S z (v :: st)) : cl_S z st := fun w hw => h w (List.mem_cons_of_mem _ hw)
theorem cl_int {z : Nat} {x : Int32} : cl_v z (.int x) := fun a e => by cases e
theorem cl_long {z : Nat} {x : Int64} : cl_v z (.long x) := fun a e => by cases e
theorem cl_float {z : Nat} {x : UInt32} : cl_v z (.float x) := fun a e => by cases e
theorem cl_double {z : Nat} {x : UInt64} : cl_v z (.double x) := fun a e => by cases e
theorem cl_null {z : Nat} : cl_v z .null := fun a e => by cases e
theorem sm_kill (o : Option Value) : (am_kill o).map (sm_v φ) = am_kill (o.map (sm_v φ)) := by
  cases o with
  | none => rfl
  | some w => cases w <;> rfl
theorem sm_tail (v : Value) (l : am_L) : sm_L φ (am_tail v l) = am_tail (sm_v φ v) (sm_L φ l) := by
  unfold am_tail
  rw [sm_cat]
  split
  · cases l <;> rfl
  · rfl
theorem sm_set (v : Value) : ∀ (i : Nat) (l : am_L), sm_L φ (am_set v i l) = am_set (sm_v φ v) i (sm_L φ l)
  | i, [] => by
    show sm_L φ (am_set v i []) = am_set (sm_v φ v) i []
    rw [am_set_nil, am_set_nil]
    rfl
  | 0, _ :: l => by
    show some (sm_v φ v) :: sm_L φ (am_tail v l) = some (sm_v φ v) :: am_tail (sm_v φ v) (sm_L φ l)
    rw [sm_tail]
  | 1, o :: l => by
    show (am_kill o).map (sm_v φ) :: sm_L φ (am_set v 0 l) = am_kill (o.map (sm_v φ)) :: am_set (sm_v φ v) 0 (sm_L φ l)
    rw [sm_kill, sm_set v 0 l]
  | i + 2, o :: l => by
    show o.map (sm_v φ) :: sm_L φ (am_set v (i + 1) l) = o.map (sm_v φ) :: am_set (sm_v φ v) (i + 1) (sm_L φ l)
    rw [sm_set v (i + 1) l]
theorem cl_set {z : Nat} {v : Value} {i : Nat} {l : am_L} (hv : cl_v z v) (hl : cl_L z l) : cl_L z (am_set v i l) := fun k w hw => by
  rcases am_set_sp v i l k w hw with ⟨-, e⟩ | ⟨e, -⟩
  · rw [e]; exact hv
  · exact hl k w e
theorem SR.rf (E : Emb φ H K) : SR φ H K H K := ⟨E, ⟨Nat.le_refl _, Nat.le_refl _⟩, ⟨rfl, rfl⟩, fun _ _ _ => rfl, fun _ h => Or.inl h⟩
theorem SR.tr (a : SR φ H K H' K') (b : SR φ H' K' H2 K2) : SR φ H K H2 K2 := by
  obtain ⟨a1, ⟨a2, a3⟩, ⟨a4, a5⟩, a6, a7⟩ := a
  obtain ⟨b1, ⟨b2, b3⟩, ⟨b4, b5⟩, b6, b7⟩ := b
  refine ⟨b1, ⟨by omega, by omega⟩, ⟨by omega, by omega⟩, fun x hx hn => ?_, fun x hx => ?_⟩
  · rw [b6 x (by omega) (fun q => (a7 x q).elim hn (fun q => by omega)), a6 x hx hn]
  · rcases b7 x hx with q | q
    · exact a7 x q
    · exact Or.inr (by omega)
/-- a cell written -/
theorem SR.wr {a : Nat} {c0 c1 : am_C} (E : Emb φ H K) (h0 : H.1 a = some c0) (w0 : wr_C c0) (hc : cl_C H.2.1 c1) : SR φ H K (va_up H.1 a (some c1), H.2.1, H.2.2) (va_up K.1 (φ a) (some (sm_C φ c1)), K.2.1, K.2.2) := by
  obtain ⟨e1, e2, e3, e4⟩ := E
  obtain ⟨ha, -, -⟩ := e4 a c0 h0
  refine ⟨⟨e1, e2, e3, fun b c hb => ?_⟩, ⟨Nat.le_refl _, Nat.le_refl _⟩, ⟨rfl, rfl⟩, fun b hb hn => ?_, fun b hb => ?_⟩
  · have hb : va_up H.1 a (some c1) b = some c := hb
    unfold va_up at hb
    by_cases e : b = a
    · rw [if_pos e] at hb
      cases hb
      subst e
      exact ⟨ha, hc, up_s⟩
    · rw [if_neg e] at hb
      obtain ⟨q1, q2, q3⟩ := e4 b c hb
      exact ⟨q1, q2, up_n (fun q => e (e1 _ _ q)) q3⟩
  · exact up_n (fun q => hn ⟨a, c0, h0, w0, q.symm⟩) rfl
  · obtain ⟨x, c, hx, hw, rfl⟩ := hb
    have hx : va_up H.1 a (some c1) x = some c := hx
    unfold va_up at hx
    by_cases e : x = a
    · subst e; exact Or.inl ⟨x, c0, h0, w0, rfl⟩
    · rw [if_neg e] at hx; exact Or.inl ⟨x, c, hx, hw, rfl⟩
/-- a cell made -/
theorem SR.nw {n : Nat} {c1 : am_C} (E : Emb φ H K) (hc : cl_C H.2.1 c1) : SR φ H K (va_up H.1 H.2.1 (some c1), H.2.1 + 1, H.2.2 + n) (va_up K.1 K.2.1 (some (sm_C φ c1)), K.2.1 + 1, K.2.2 + n) := by
  obtain ⟨e1, e2, e3, e4⟩ := E
  have hz : φ H.2.1 = K.2.1 := by rw [e2 _ (Nat.le_refl _)]; omega
  refine ⟨⟨e1, fun a ha => ?_, fun a ha => ?_, fun b c hb => ?_⟩, ⟨Nat.le_succ _, Nat.le_add_right _ _⟩, ⟨by show K.2.1 + 1 + H.2.1 = K.2.1 + (H.2.1 + 1); omega, by show K.2.2 + n + H.2.2 = K.2.2 + (H.2.2 + n); omega⟩, fun b hb _ => ?_, fun b hb => ?_⟩
  · have ha : H.2.1 + 1 ≤ a := ha
    show φ a = K.2.1 + 1 + (a - (H.2.1 + 1))
    rw [e2 a (by omega)]
    omega
  · have ha : a < H.2.1 + 1 := ha
    show φ a < K.2.1 + 1
    by_cases e : a = H.2.1
    · rw [e, hz]; omega
    · have := e3 a (by omega); omega
  · have hb : va_up H.1 H.2.1 (some c1) b = some c := hb
    unfold va_up at hb
    by_cases e : b = H.2.1
    · rw [if_pos e] at hb
      cases hb
      subst e
      exact ⟨Nat.lt_succ_self _, hc.up (Nat.le_succ _), by rw [hz]; exact up_s⟩
    · rw [if_neg e] at hb
      obtain ⟨q1, q2, q3⟩ := e4 b c hb
      exact ⟨Nat.lt_succ_of_lt q1, q2.up (Nat.le_succ _), up_n (fun q => e (e1 _ _ (q.trans hz.symm))) q3⟩
  · exact up_n (by omega) rfl
  · obtain ⟨x, c, hx, hw, rfl⟩ := hb
    have hx : va_up H.1 H.2.1 (some c1) x = some c := hx
    unfold va_up at hx
    by_cases e : x = H.2.1
    · subst e; right; rw [hz]; exact Nat.le_refl _
    · rw [if_neg e] at hx; exact Or.inl ⟨x, c, hx, hw, rfl⟩
/-- what one does in its own heap the other does in the great one -/
def SmT (φ : Nat → Nat) (H K : am_H) (X Y : am_R) : Prop := ∀ pc ls st H', X = some (pc, ls, st, H') → ∃ K', Y = some (pc, sm_L φ ls, sm_S φ st, K') ∧ SR φ H K H' K' ∧ cl_L H'.2.1 ls ∧ cl_S H'.2.1 st
section PLAIN
variable {pc : Nat} {ls : am_L} {st : List Value}
theorem sim_push (E : Emb φ H K) (hl : cl_L H.2.1 ls) (hs : cl_S H.2.1 st) {v : Value} (hv : sm_v φ v = v) (hc : cl_v H.2.1 v) : SmT φ H K (am_push pc ls st H v) (am_push pc (sm_L φ ls) (sm_S φ st) K v) := by
  intro pc' ls' st' H' h
  cases h
  exact ⟨K, by show some (_, _, v :: sm_S φ st, K) = some (_, _, sm_v φ v :: sm_S φ st, K); rw [hv], SR.rf E, hl, hs.cons hc⟩
theorem sim_pushO (E : Emb φ H K) (hl : cl_L H.2.1 ls) (hs : cl_S H.2.1 st) {o : Option Value} (hv : ∀ v, o = some v → sm_v φ v = v ∧ cl_v H.2.1 v) : SmT φ H K (am_pushO pc ls st H o) (am_pushO pc (sm_L φ ls) (sm_S φ st) K o) := by
  cases o with
  | none => intro pc' ls' st' H' h; cases h
  | some v => exact sim_push E hl hs (hv v rfl).1 (hv v rfl).2
theorem sim_load (E : Emb φ H K) (hl : cl_L H.2.1 ls) (hs : cl_S H.2.1 st) {ok : Value → Bool} {i : Nat} (hok : ∀ v, ok (sm_v φ v) = ok v) : SmT φ H K (am_load ok i pc ls st H) (am_load ok i pc (sm_L φ ls) (sm_S φ st) K) := by
  intro pc' ls' st' H' h
  obtain ⟨v, hv, ho, e⟩ := am_load_inv h
  cases e
  refine ⟨K, ?_, SR.rf E, hl, hs.cons (hl _ _ hv)⟩
  unfold am_load
  rw [sm_get hv]
  dsimp only
  rw [hok, if_pos ho]
  rfl
theorem sim_store (E : Emb φ H K) (hl : cl_L H.2.1 ls) (hs : cl_S H.2.1 st) {ok : Value → Bool} {i : Nat} (hok : ∀ v, ok (sm_v φ v) = ok v) : SmT φ H K (am_store ok i pc ls st H) (am_store ok i pc (sm_L φ ls) (sm_S φ st) K) := by
  intro pc' ls' st' H' h
  obtain ⟨v, st0, e1, ho, hi, e⟩ := am_store_inv h
  cases e
  subst e1
  refine ⟨K, ?_, SR.rf E, cl_set hs.hd hl, hs.tl⟩
  show (if ok (sm_v φ v) = true ∧ i + (sm_v φ v).category ≤ (sm_L φ ls).length then some (pc, am_set (sm_v φ v) i (sm_L φ ls), sm_S φ st', K) else none) = _
  rw [hok, sm_cat, sm_lenL, if_pos ⟨ho, hi⟩, sm_set]
theorem sim_iinc (E : Emb φ H K) (hl : cl_L H.2.1 ls) (hs : cl_S H.2.1 st) {i : Nat} {k : Int} : SmT φ H K (am_iinc i k pc ls st H) (am_iinc i k pc (sm_L φ ls) (sm_S φ st) K) := by
  intro pc' ls' st' H' h
  obtain ⟨x, hx, e⟩ := am_iinc_inv h
  cases e
  refine ⟨K, ?_, SR.rf E, cl_set cl_int hl, hs⟩
  unfold am_iinc
  rw [sm_get hx]
  show some (_, am_set (.int (x + Int32.ofInt k)) i (sm_L φ ls), _, _) = _
  rw [sm_set]
  rfl
theorem sim_i2 (E : Emb φ H K) (hl : cl_L H.2.1 ls) (hs : cl_S H.2.1 st) {f : Int32 → Int32 → Option Int32} : SmT φ H K (am_i2 f pc ls st H) (am_i2 f pc (sm_L φ ls) (sm_S φ st) K) := by
  intro pc' ls' st' H' h
  obtain ⟨x, y, w, st0, e1, hz, e⟩ := am_i2_inv h
  cases e
  subst e1
  refine ⟨K, ?_, SR.rf E, hl, hs.tl.tl.cons cl_int⟩
  show (match f x y with | some z => some (pc, sm_L φ ls, Value.int z :: sm_S φ st0, K) | none => none) = _
  rw [hz]
  rfl
theorem sim_l2 (E : Emb φ H K) (hl : cl_L H.2.1 ls) (hs : cl_S H.2.1 st) {f : Int64 → Int64 → Option Value} (hf : ∀ x y v, f x y = some v → sm_v φ v = v ∧ cl_v H.2.1 v) : SmT φ H K (am_l2 f pc ls st H) (am_l2 f pc (sm_L φ ls) (sm_S φ st) K) := by
  intro pc' ls' st' H' h
  obtain ⟨x, y, w, st0, e1, hz, e⟩ := am_l2_inv h
  cases e
  subst e1
  refine ⟨K, ?_, SR.rf E, hl, hs.tl.tl.cons (hf _ _ _ hz).2⟩
  show (match f x y with | some z => some (pc, sm_L φ ls, z :: sm_S φ st0, K) | none => none) = some (pc, sm_L φ ls, sm_v φ w :: sm_S φ st0, K)
  rw [hz, (hf _ _ _ hz).1]
theorem sim_u1 (E : Emb φ H K) (hl : cl_L H.2.1 ls) (hs : cl_S H.2.1 st) {f : Value → Option Value} (hf : ∀ x v, f x = some v → f (sm_v φ x) = some v ∧ sm_v φ v = v ∧ cl_v H.2.1 v) : SmT φ H K (am_u1 f pc ls st H) (am_u1 f pc (sm_L φ ls) (sm_S φ st) K) := by
  intro pc' ls' st' H' h
  obtain ⟨x, w, st0, e1, hz, e⟩ := am_u1_inv h
  cases e
  subst e1
  obtain ⟨f1, f2, f3⟩ := hf _ _ hz
  refine ⟨K, ?_, SR.rf E, hl, hs.tl.cons f3⟩
  show (match f (sm_v φ x) with | some z => some (pc, sm_L φ ls, z :: sm_S φ st0, K) | none => none) = some (pc, sm_L φ ls, sm_v φ w :: sm_S φ st0, K)
  rw [f1, f2]
theorem sim_f2 (E : Emb φ H K) (hl : cl_L H.2.1 ls) (hs : cl_S H.2.1 st) {f : UInt32 → UInt32 → Option Value} (hf : ∀ x y v, f x y = some v → sm_v φ v = v ∧ cl_v H.2.1 v) : SmT φ H K (am_f2 f pc ls st H) (am_f2 f pc (sm_L φ ls) (sm_S φ st) K) := by
  intro pc' ls' st' H' h
  obtain ⟨x, y, w, st0, e1, hz, e⟩ := am_f2_inv h
  cases e
  subst e1
  refine ⟨K, ?_, SR.rf E, hl, hs.tl.tl.cons (hf _ _ _ hz).2⟩
  show am_pushO pc (sm_L φ ls) (sm_S φ st0) K (f x y) = some (pc, sm_L φ ls, sm_v φ w :: sm_S φ st0, K)
  rw [hz, (hf _ _ _ hz).1]
  rfl
theorem sim_d2 (E : Emb φ H K) (hl : cl_L H.2.1 ls) (hs : cl_S H.2.1 st) {f : UInt64 → UInt64 → Option Value} (hf : ∀ x y v, f x y = some v → sm_v φ v = v ∧ cl_v H.2.1 v) : SmT φ H K (am_d2 f pc ls st H) (am_d2 f pc (sm_L φ ls) (sm_S φ st) K) := by
  intro pc' ls' st' H' h
  obtain ⟨x, y, w, st0, e1, hz, e⟩ := am_d2_inv h
  cases e
  subst e1
  refine ⟨K, ?_, SR.rf E, hl, hs.tl.tl.cons (hf _ _ _ hz).2⟩
  show am_pushO pc (sm_L φ ls) (sm_S φ st0) K (f x y) = some (pc, sm_L φ ls, sm_v φ w :: sm_S φ st0, K)
  rw [hz, (hf _ _ _ hz).1]
  rfl
theorem sim_tgt (E : Emb φ H K) (hl : cl_L H.2.1 ls) (hs : cl_S H.2.1 st) {off : Int} : SmT φ H K (am_tgt pc off ls st H) (am_tgt pc off (sm_L φ ls) (sm_S φ st) K) := by
  intro pc' ls' st' H' h
  obtain ⟨ho, e⟩ := am_tgt_inv h
  cases e
  refine ⟨K, ?_, SR.rf E, hl, hs⟩
  unfold am_tgt
  rw [if_pos ho]
theorem sim_if1 (E : Emb φ H K) (hl : cl_L H.2.1 ls) (hs : cl_S H.2.1 st) {k : ClassFile.Cond} {off : Int} : SmT φ H K (am_if1 k off pc ls st H) (am_if1 k off pc (sm_L φ ls) (sm_S φ st) K) := by
  intro pc' ls' st' H' h
  obtain ⟨x, st0, e1, ho, e⟩ := am_if1_inv h
  cases e
  subst e1
  refine ⟨K, ?_, SR.rf E, hl, hs.tl⟩
  show (if 0 ≤ (pc : Int) + off then some (if am_c1 k x = true then ((pc : Int) + off).toNat else pc + 3, sm_L φ ls, sm_S φ st', K) else none) = _
  rw [if_pos ho]
theorem sim_if2 (E : Emb φ H K) (hl : cl_L H.2.1 ls) (hs : cl_S H.2.1 st) {k : ClassFile.Cond} {off : Int} : SmT φ H K (am_if2 k off pc ls st H) (am_if2 k off pc (sm_L φ ls) (sm_S φ st) K) := by
  intro pc' ls' st' H' h
  obtain ⟨x, y, st0, e1, ho, e⟩ := am_if2_inv h
  cases e
  subst e1
  refine ⟨K, ?_, SR.rf E, hl, hs.tl.tl⟩
  show (if 0 ≤ (pc : Int) + off then some (if am_c2 k x y = true then ((pc : Int) + off).toNat else pc + 3, sm_L φ ls, sm_S φ st', K) else none) = _
  rw [if_pos ho]
theorem sim_nn (E : Emb φ H K) (hl : cl_L H.2.1 ls) (hs : cl_S H.2.1 st) {off : Int} : SmT φ H K (am_nn off pc ls st H) (am_nn off pc (sm_L φ ls) (sm_S φ st) K) := by
  rcases st with _ | ⟨v, st0⟩
  · intro pc' ls' st' H' h; cases h
  · cases v
    case ref a => exact sim_tgt E hl hs.tl
    case null => intro pc' ls' st' H' h; cases h; exact ⟨K, rfl, SR.rf E, hl, hs.tl⟩
    all_goals (intro pc' ls' st' H' h; cases h)
theorem sim_tsw (E : Emb φ H K) (hl : cl_L H.2.1 ls) (hs : cl_S H.2.1 st) {d lo hi : Int} {offs : Array Int} : SmT φ H K (am_tsw d lo hi offs pc ls st H) (am_tsw d lo hi offs pc (sm_L φ ls) (sm_S φ st) K) := by
  rcases st with _ | ⟨v, st0⟩
  · intro pc' ls' st' H' h; cases h
  · cases v
    case int x =>
      show SmT φ H K (if x.toInt < lo ∨ hi < x.toInt then am_tgt pc d ls st0 H else (match offs[(x.toInt - lo).toNat]? with | some off => am_tgt pc off ls st0 H | none => none)) (if x.toInt < lo ∨ hi < x.toInt then am_tgt pc d (sm_L φ ls) (sm_S φ st0) K else (match offs[(x.toInt - lo).toNat]? with | some off => am_tgt pc off (sm_L φ ls) (sm_S φ st0) K | none => none))
      by_cases hx : x.toInt < lo ∨ hi < x.toInt
      · rw [if_pos hx, if_pos hx]; exact sim_tgt E hl hs.tl
      · rw [if_neg hx, if_neg hx]
        cases offs[(x.toInt - lo).toNat]? with
        | none => intro pc' ls' st' H' h; cases h
        | some off => exact sim_tgt E hl hs.tl
    all_goals (intro pc' ls' st' H' h; cases h)
theorem sim_lsw (E : Emb φ H K) (hl : cl_L H.2.1 ls) (hs : cl_S H.2.1 st) {d : Int} {ps : Array (Int × Int)} : SmT φ H K (am_lsw d ps pc ls st H) (am_lsw d ps pc (sm_L φ ls) (sm_S φ st) K) := by
  rcases st with _ | ⟨v, st0⟩
  · intro pc' ls' st' H' h; cases h
  · cases v
    case int x =>
      show SmT φ H K (if (ps.toList.zip (ps.toList.drop 1)).all (fun (a, next) => a.1 < next.1) = true then am_tgt pc (Op.lookupswitch.offset ps.toList d x.toInt) ls st0 H else none) (if (ps.toList.zip (ps.toList.drop 1)).all (fun (a, next) => a.1 < next.1) = true then am_tgt pc (Op.lookupswitch.offset ps.toList d x.toInt) (sm_L φ ls) (sm_S φ st0) K else none)
      split
      · exact sim_tgt E hl hs.tl
      · intro pc' ls' st' H' h; cases h
    all_goals (intro pc' ls' st' H' h; cases h)
theorem sim_dup (E : Emb φ H K) (hl : cl_L H.2.1 ls) (hs : cl_S H.2.1 st) : SmT φ H K (am_dup pc ls st H) (am_dup pc (sm_L φ ls) (sm_S φ st) K) := by
  rcases st with _ | ⟨v, st0⟩
  · intro pc' ls' st' H' h; cases h
  · intro pc' ls' st' H' h
    have h : (if v.category = 1 then some (pc, ls, v :: v :: st0, H) else none) = some (pc', ls', st', H') := h
    split at h
    · rename_i hv
      cases h
      refine ⟨K, ?_, SR.rf E, hl, hs.cons hs.hd⟩
      show (if (sm_v φ v).category = 1 then some (pc, sm_L φ ls, sm_v φ v :: sm_v φ v :: sm_S φ st0, K) else none) = _
      rw [sm_cat, if_pos hv]
      rfl
    · cases h
theorem sim_dup2 (E : Emb φ H K) (hl : cl_L H.2.1 ls) (hs : cl_S H.2.1 st) : SmT φ H K (am_dup2 pc ls st H) (am_dup2 pc (sm_L φ ls) (sm_S φ st) K) := by
  rcases st with _ | ⟨v, _ | ⟨w, st0⟩⟩
  · intro pc' ls' st' H' h; cases h
  · intro pc' ls' st' H' h; cases h
  · intro pc' ls' st' H' h
    have h : (if v.category = 1 ∧ w.category = 1 then some (pc, ls, v :: w :: v :: w :: st0, H) else none) = some (pc', ls', st', H') := h
    split at h
    · rename_i hv
      cases h
      refine ⟨K, ?_, SR.rf E, hl, (hs.cons hs.tl.hd).cons hs.hd⟩
      show (if (sm_v φ v).category = 1 ∧ (sm_v φ w).category = 1 then some (pc, sm_L φ ls, sm_v φ v :: sm_v φ w :: sm_v φ v :: sm_v φ w :: sm_S φ st0, K) else none) = _
      rw [sm_cat, sm_cat, if_pos hv]
      rfl
    · cases h
end PLAIN
section HEAPS
variable {pc : Nat} {ls : am_L} {st : List Value}
theorem Emb.at {a : Nat} {c : am_C} (E : Emb φ H K) (h : H.1 a = some c) : K.1 (φ a) = some (sm_C φ c) := (E.2.2.2 a c h).2.2
theorem sim_getf (E : Emb φ H K) (hl : cl_L H.2.1 ls) (hs : cl_S H.2.1 st) {c cp : Nat} : SmT φ H K (am_getf c cp pc ls st H) (am_getf c cp pc (sm_L φ ls) (sm_S φ st) K) := by
  intro pc' ls' st' H' h
  unfold am_getf at h
  split at h
  · rename_i a st0 ci k hlk
    split at h
    · rename_i cj fs ha
      split at h
      · rename_i hci
        split at h
        · rename_i v hv
          cases h
          obtain ⟨q1, q2, q3⟩ := E.2.2.2 _ _ ha
          refine ⟨K, ?_, SR.rf E, hl, hs.tl.cons (q2 v (List.mem_of_getElem? hv))⟩
          show am_getf c cp pc (sm_L φ ls) (.ref (φ a) :: sm_S φ st0) K = _
          unfold am_getf
          rw [hlk]
          dsimp only
          rw [q3]
          show (if cj = ci then (match (fs.map (sm_v φ))[k]? with | some v => some (pc, sm_L φ ls, v :: sm_S φ st0, K) | none => none) else none) = _
          rw [if_pos hci, List.getElem?_map, hv]
          rfl
        · cases h
      · cases h
    · cases h
  · cases h
theorem sm_okv (ty : FieldType) (v : Value) : am_okv ty (sm_v φ v) = am_okv ty v := by cases ty <;> cases v <;> rfl
theorem sim_putf (E : Emb φ H K) (hl : cl_L H.2.1 ls) (hs : cl_S H.2.1 st) {ini : Bool} {c cp : Nat} : SmT φ H K (am_putf ini c cp pc ls st H) (am_putf ini c cp pc (sm_L φ ls) (sm_S φ st) K) := by
  intro pc' ls' st' H' h
  unfold am_putf at h
  split at h
  · rename_i v a st0 ci k hlk
    split at h
    · rename_i cj fs ha
      split at h
      · rename_i hci
        cases h
        obtain ⟨q1, q2, q3⟩ := E.2.2.2 _ _ ha
        refine ⟨_, ?_, SR.wr (c1 := .inr (ci, fs.set k v)) E ha trivial (fun w hw => ?_), hl, hs.tl.tl⟩
        · show am_putf ini c cp pc (sm_L φ ls) (sm_v φ v :: .ref (φ a) :: sm_S φ st') K = _
          unfold am_putf
          rw [hlk]
          dsimp only
          rw [q3]
          show (if cj = ci ∧ am_okv (am_tys ci k) (sm_v φ v) = true ∧ (am_fin ci k = false ∨ (ini = true ∧ ci = c)) then some (pc, sm_L φ ls, sm_S φ st', va_up K.1 (φ a) (some (.inr (ci, (fs.map (sm_v φ)).set k (sm_v φ v)))), K.2.1, K.2.2) else none) = some (pc, sm_L φ ls, sm_S φ st', va_up K.1 (φ a) (some (.inr (ci, (fs.set k v).map (sm_v φ)))), K.2.1, K.2.2)
          rw [sm_okv, if_pos hci, List.map_set]
        · rcases List.mem_or_eq_of_mem_set hw with e | e
          · exact q2 w e
          · rw [e]; exact hs.hd
      · cases h
    · cases h
  · cases h
theorem sim_gets (E : Emb φ H K) (hl : cl_L H.2.1 ls) (hs : cl_S H.2.1 st) {c cp : Nat} (h1 : φ sA = sA) (h2 : sA < H.2.1) : SmT φ H K (am_gets sA c cp pc ls st H) (am_gets sA c cp pc (sm_L φ ls) (sm_S φ st) K) := by
  intro pc' ls' st' H' h
  unfold am_gets at h
  split at h
  · rename_i hc
    cases h
    refine ⟨K, ?_, SR.rf E, hl, hs.cons (fun a e => by cases e; exact h2)⟩
    unfold am_gets
    rw [if_pos hc]
    show some (_, _, .ref sA :: _, _) = some (_, _, .ref (φ sA) :: sm_S φ st, _)
    rw [h1]
  · cases h
theorem sm_def (ty : FieldType) : sm_v φ (defaultValue ty) = defaultValue ty := by cases ty <;> rfl
theorem sm_bl (ci : Nat) : sm_S φ (am_bl ci) = am_bl ci := by
  unfold am_bl sm_S
  split
  · rw [List.map_map]
    exact List.map_congr_left (fun k _ => sm_def _)
  · rfl
theorem cl_bl {z : Nat} (ci : Nat) : cl_S z (am_bl ci) := by
  unfold am_bl
  split
  · intro v hv a e
    obtain ⟨k, -, hk⟩ := List.mem_map.mp hv
    rw [e] at hk
    generalize am_tys ci k = ty at hk
    cases ty <;> cases hk
  · intro v hv
    cases hv
theorem sim_new (E : Emb φ H K) (hl : cl_L H.2.1 ls) (hs : cl_S H.2.1 st) {c cp : Nat} : SmT φ H K (am_new c cp pc ls st H) (am_new c cp pc (sm_L φ ls) (sm_S φ st) K) := by
  intro pc' ls' st' H' h
  unfold am_new at h
  split at h
  · rename_i ci hlk
    cases h
    refine ⟨_, ?_, SR.nw (n := am_nf ci) (c1 := .inr (ci, am_bl ci)) E (cl_bl ci), hl.up (Nat.le_succ _), (hs.up (Nat.le_succ _)).cons (fun a e => by cases e; exact Nat.lt_succ_self _)⟩
    have hz : φ H.2.1 = K.2.1 := by rw [E.2.1 _ (Nat.le_refl _)]; omega
    unfold am_new
    rw [hlk]
    show some (pc, sm_L φ ls, .ref K.2.1 :: sm_S φ st, va_up K.1 K.2.1 (some (.inr (ci, am_bl ci))), K.2.1 + 1, K.2.2 + am_nf ci) = some (pc, sm_L φ ls, .ref (φ H.2.1) :: sm_S φ st, va_up K.1 K.2.1 (some (.inr (ci, sm_S φ (am_bl ci)))), K.2.1 + 1, K.2.2 + am_nf ci)
    rw [hz, sm_bl]
  · cases h
theorem sim_newa (E : Emb φ H K) (hl : cl_L H.2.1 ls) (hs : cl_S H.2.1 st) : SmT φ H K (am_newa pc ls st H) (am_newa pc (sm_L φ ls) (sm_S φ st) K) := by
  rcases st with _ | ⟨v, st0⟩
  · intro pc' ls' st' H' h; cases h
  · cases v
    case int n =>
      intro pc' ls' st' H' h
      have h : (if 0 ≤ n ∧ n.toNatClampNeg ≤ 100000 then some (pc, ls, Value.ref H.2.1 :: st0, va_up H.1 H.2.1 (some (.inl (0, n.toNatClampNeg, .inl (fun _ => 0)))), H.2.1 + 1, H.2.2 + n.toNatClampNeg) else none) = some (pc', ls', st', H') := h
      split at h
      · rename_i hc
        cases h
        refine ⟨_, ?_, SR.nw (n := n.toNatClampNeg) (c1 := .inl (0, n.toNatClampNeg, .inl (fun _ => 0))) E trivial, hl.up (Nat.le_succ _), (hs.tl.up (Nat.le_succ _)).cons (fun a e => by cases e; exact Nat.lt_succ_self _)⟩
        have hz : φ H.2.1 = K.2.1 := by rw [E.2.1 _ (Nat.le_refl _)]; omega
        show (if 0 ≤ n ∧ n.toNatClampNeg ≤ 100000 then some (pc, sm_L φ ls, Value.ref K.2.1 :: sm_S φ st0, va_up K.1 K.2.1 (some (.inl (0, n.toNatClampNeg, .inl (fun _ => 0)))), K.2.1 + 1, K.2.2 + n.toNatClampNeg) else none) = some (pc, sm_L φ ls, Value.ref (φ H.2.1) :: sm_S φ st0, va_up K.1 K.2.1 (some (.inl (0, n.toNatClampNeg, .inl (fun _ => 0)))), K.2.1 + 1, K.2.2 + n.toNatClampNeg)
        rw [if_pos hc, hz]
      · cases h
    all_goals (intro pc' ls' st' H' h; cases h)
theorem sim_anew (E : Emb φ H K) (hl : cl_L H.2.1 ls) (hs : cl_S H.2.1 st) {c cp : Nat} : SmT φ H K (am_anew c cp pc ls st H) (am_anew c cp pc (sm_L φ ls) (sm_S φ st) K) := by
  intro pc' ls' st' H' h
  unfold am_anew at h
  split at h
  · rename_i n st0 t hlk
    split at h
    · rename_i hc
      cases h
      refine ⟨_, ?_, SR.nw (n := n.toNatClampNeg) (c1 := .inl (t, n.toNatClampNeg, .inr (.inr (.inr (.inr (fun _ => none)))))) E (fun j a e => by cases e), hl.up (Nat.le_succ _), (hs.tl.up (Nat.le_succ _)).cons (fun a e => by cases e; exact Nat.lt_succ_self _)⟩
      have hz : φ H.2.1 = K.2.1 := by rw [E.2.1 _ (Nat.le_refl _)]; omega
      show am_anew c cp pc (sm_L φ ls) (.int n :: sm_S φ st0) K = some (pc, sm_L φ ls, Value.ref (φ H.2.1) :: sm_S φ st0, va_up K.1 K.2.1 (some (.inl (t, n.toNatClampNeg, .inr (.inr (.inr (.inr (fun _ => none))))))), K.2.1 + 1, K.2.2 + n.toNatClampNeg)
      unfold am_anew
      rw [hlk]
      dsimp only
      rw [if_pos hc, hz]
    · cases h
  · cases h
theorem sim_iald (E : Emb φ H K) (hl : cl_L H.2.1 ls) (hs : cl_S H.2.1 st) : SmT φ H K (am_iald pc ls st H) (am_iald pc (sm_L φ ls) (sm_S φ st) K) := by
  intro pc' ls' st' H' h
  unfold am_iald at h
  split at h
  · rename_i i a st0
    split at h
    · rename_i t n f ha
      split at h
      · rename_i hc
        cases h
        refine ⟨K, ?_, SR.rf E, hl, hs.tl.tl.cons cl_int⟩
        show am_iald pc (sm_L φ ls) (.int i :: .ref (φ a) :: sm_S φ st0) K = _
        unfold am_iald
        dsimp only
        rw [E.at ha]
        show (if (t = 0 ∨ t = 9) ∧ 0 ≤ i ∧ i.toNatClampNeg < n then some (pc, sm_L φ ls, .int (f i.toNatClampNeg) :: sm_S φ st0, K) else none) = _
        rw [if_pos hc]
        rfl
      · cases h
    · cases h
  · cases h
theorem sim_iast (E : Emb φ H K) (hl : cl_L H.2.1 ls) (hs : cl_S H.2.1 st) : SmT φ H K (am_iast pc ls st H) (am_iast pc (sm_L φ ls) (sm_S φ st) K) := by
  intro pc' ls' st' H' h
  unfold am_iast at h
  split at h
  · rename_i x i a st0
    split at h
    · rename_i t n f ha
      split at h
      · rename_i hc
        cases h
        refine ⟨_, ?_, SR.wr (c1 := .inl (0, n, .inl (upd f i.toNatClampNeg x))) E ha (show ¬ t = 9 by omega) trivial, hl, hs.tl.tl.tl⟩
        show am_iast pc (sm_L φ ls) (.int x :: .int i :: .ref (φ a) :: sm_S φ st') K = _
        unfold am_iast
        dsimp only
        rw [E.at ha]
        show (if t = 0 ∧ 0 ≤ i ∧ i.toNatClampNeg < n then some (pc, sm_L φ ls, sm_S φ st', va_up K.1 (φ a) (some (.inl (0, n, .inl (upd f i.toNatClampNeg x)))), K.2.1, K.2.2) else none) = _
        rw [if_pos hc]
        rfl
      · cases h
    · cases h
  · cases h
theorem sim_aald (E : Emb φ H K) (hl : cl_L H.2.1 ls) (hs : cl_S H.2.1 st) : SmT φ H K (am_aald pc ls st H) (am_aald pc (sm_L φ ls) (sm_S φ st) K) := by
  intro pc' ls' st' H' h
  unfold am_aald at h
  split at h
  · rename_i i a st0
    split at h
    · rename_i t n f ha
      split at h
      · rename_i hc
        cases h
        obtain ⟨q1, q2, q3⟩ := E.2.2.2 _ _ ha
        have q2 : ∀ j a, f j = some a → a < H.2.1 := q2
        refine ⟨K, ?_, SR.rf E, hl, hs.tl.tl.cons (fun b e => ?_)⟩
        · show am_aald pc (sm_L φ ls) (.int i :: .ref (φ a) :: sm_S φ st0) K = _
          unfold am_aald
          dsimp only
          rw [q3]
          show (if (0 < t ∧ t < 4) ∧ 0 ≤ i ∧ i.toNatClampNeg < n then some (pc, sm_L φ ls, va_rf ((f i.toNatClampNeg).map φ) :: sm_S φ st0, K) else none) = some (pc, sm_L φ ls, sm_v φ (va_rf (f i.toNatClampNeg)) :: sm_S φ st0, K)
          rw [if_pos hc]
          cases f i.toNatClampNeg <;> rfl
        · cases hf : f i.toNatClampNeg with
          | none => rw [hf] at e; cases e
          | some y => rw [hf] at e; cases e; exact q2 _ _ hf
      · cases h
    · cases h
  · cases h
theorem sim_aast (E : Emb φ H K) (hl : cl_L H.2.1 ls) (hs : cl_S H.2.1 st) : SmT φ H K (am_aast pc ls st H) (am_aast pc (sm_L φ ls) (sm_S φ st) K) := by
  intro pc' ls' st' H' h
  unfold am_aast at h
  split at h
  · rename_i b i a st0
    split at h
    · rename_i t n f ci fs ha hb
      split at h
      · rename_i hc
        cases h
        obtain ⟨q1, q2, q3⟩ := E.2.2.2 _ _ ha
        have q2 : ∀ j a, f j = some a → a < H.2.1 := q2
        refine ⟨_, ?_, SR.wr (c1 := .inl (t, n, .inr (.inr (.inr (.inr (va_up f i.toNatClampNeg (some b))))))) E ha (show ¬ t = 9 by omega) (fun j y e => ?_), hl, hs.tl.tl.tl⟩
        · show am_aast pc (sm_L φ ls) (.ref (φ b) :: .int i :: .ref (φ a) :: sm_S φ st') K = _
          unfold am_aast
          dsimp only
          rw [q3, E.at hb]
          show (if ((0 < t ∧ t < 4) ∧ ci = am_comp t) ∧ 0 ≤ i ∧ i.toNatClampNeg < n then some (pc, sm_L φ ls, sm_S φ st', va_up K.1 (φ a) (some (.inl (t, n, .inr (.inr (.inr (.inr (va_up (fun j => (f j).map φ) i.toNatClampNeg (some (φ b))))))))), K.2.1, K.2.2) else none) = some (pc, sm_L φ ls, sm_S φ st', va_up K.1 (φ a) (some (.inl (t, n, .inr (.inr (.inr (.inr (fun j => (va_up f i.toNatClampNeg (some b) j).map φ))))))), K.2.1, K.2.2)
          rw [if_pos hc]
          have e : va_up (fun j => (f j).map φ) i.toNatClampNeg (some (φ b)) = fun j => (va_up f i.toNatClampNeg (some b) j).map φ := by
            funext j
            unfold va_up
            split <;> rfl
          rw [e]
        · unfold va_up at e
          split at e
          · cases e; exact hs.hd _ rfl
          · exact q2 _ _ e
      · cases h
    · cases h
  · cases h
theorem sim_alen (E : Emb φ H K) (hl : cl_L H.2.1 ls) (hs : cl_S H.2.1 st) : SmT φ H K (am_alen pc ls st H) (am_alen pc (sm_L φ ls) (sm_S φ st) K) := by
  intro pc' ls' st' H' h
  unfold am_alen at h
  split at h
  · rename_i a st0
    split at h
    · rename_i t n f ha
      split at h
      · rename_i hc
        cases h
        refine ⟨K, ?_, SR.rf E, hl, hs.tl.cons cl_int⟩
        show am_alen pc (sm_L φ ls) (.ref (φ a) :: sm_S φ st0) K = _
        unfold am_alen
        dsimp only
        rw [E.at ha]
        show (if t = 0 ∨ t = 9 then some (pc, sm_L φ ls, .int (Int32.ofNat n) :: sm_S φ st0, K) else none) = _
        rw [if_pos hc]
        rfl
      · cases h
    · cases h
  · cases h
theorem sim_obj (E : Emb φ H K) (hl : cl_L H.2.1 ls) (hs : cl_S H.2.1 st) {mi : am_I} : SmT φ H K (am_obj mi pc ls st H) (am_obj mi pc (sm_L φ ls) (sm_S φ st) K) := by
  rcases st with _ | ⟨v, st0⟩
  · intro pc' ls' st' H' h; cases h
  · cases v
    case ref a =>
      intro pc' ls' st' H' h
      have h : (if 1 ≤ mi.2.2.2.2.2.1 ∧ am_cat st0 + 12 ≤ mi.2.2.2.2.2.2 then some (pc + 3, ls, st0, H) else none) = some (pc', ls', st', H') := h
      split at h
      · rename_i hc
        cases h
        refine ⟨K, ?_, SR.rf E, hl, hs.tl⟩
        show (if 1 ≤ mi.2.2.2.2.2.1 ∧ am_cat (sm_S φ st0) + 12 ≤ mi.2.2.2.2.2.2 then some (pc + 3, sm_L φ ls, sm_S φ st0, K) else none) = _
        rw [sm_cats, if_pos hc]
      · cases h
    all_goals (intro pc' ls' st' H' h; cases h)
theorem sim_copy (E : Emb φ H K) (hl : cl_L H.2.1 ls) (hs : cl_S H.2.1 st) {mi : am_I} : SmT φ H K (am_copy mi pc ls st H) (am_copy mi pc (sm_L φ ls) (sm_S φ st) K) := by
  intro pc' ls' st' H' h
  unfold am_copy at h
  split at h
  · rename_i n dp a sp a0 st0
    split at h
    · rename_i t0 n0 f t1 n1 g ha0 ha
      split at h
      · rename_i hc
        cases h
        refine ⟨_, ?_, SR.wr E ha (show ¬ t1 = 9 by omega) (c1 := .inl (0, n1, .inl (va_cpy f g sp.toNatClampNeg dp.toNatClampNeg n.toNatClampNeg))) trivial, hl, hs.tl.tl.tl.tl.tl⟩
        show am_copy mi pc (sm_L φ ls) (.int n :: .int dp :: .ref (φ a) :: .int sp :: .ref (φ a0) :: sm_S φ st') K = _
        unfold am_copy
        dsimp only
        rw [E.at ha0, E.at ha]
        dsimp only [sm_C, sm_A]
        rw [sm_cats, if_pos hc]
      · cases h
    · cases h
  · cases h
theorem sim_min (E : Emb φ H K) (hl : cl_L H.2.1 ls) (hs : cl_S H.2.1 st) {mi : am_I} : SmT φ H K (am_min mi pc ls st H) (am_min mi pc (sm_L φ ls) (sm_S φ st) K) := by
  intro pc' ls' st' H' h
  unfold am_min at h
  split at h
  · rename_i y x st0
    split at h
    · rename_i hc
      cases h
      refine ⟨K, ?_, SR.rf E, hl, hs.tl.tl.cons cl_int⟩
      show am_min mi pc (sm_L φ ls) (.int y :: .int x :: sm_S φ st0) K = _
      unfold am_min
      dsimp only
      rw [sm_cats, if_pos hc]
      rfl
    · cases h
  · cases h
theorem sim_abs (E : Emb φ H K) (hl : cl_L H.2.1 ls) (hs : cl_S H.2.1 st) {mi : am_I} : SmT φ H K (am_abs mi pc ls st H) (am_abs mi pc (sm_L φ ls) (sm_S φ st) K) := by
  intro pc' ls' st' H' h
  unfold am_abs at h
  split at h
  · rename_i x st0
    split at h
    · rename_i hc
      cases h
      refine ⟨K, ?_, SR.rf E, hl, hs.tl.cons cl_int⟩
      show am_abs mi pc (sm_L φ ls) (.int x :: sm_S φ st0) K = _
      unfold am_abs
      dsimp only
      rw [sm_cats, if_pos hc]
      rfl
    · cases h
  · cases h
theorem sim_special (E : Emb φ H K) (hl : cl_L H.2.1 ls) (hs : cl_S H.2.1 st) {mi : am_I} {cp : Nat} : SmT φ H K (am_special mi cp pc ls st H) (am_special mi cp pc (sm_L φ ls) (sm_S φ st) K) := by
  unfold am_special
  split
  · exact sim_copy E hl hs
  · exact sim_min E hl hs
  · exact sim_abs E hl hs
  · intro pc' ls' st' H' h; cases h
theorem sim_objI (E : Emb φ H K) (hl : cl_L H.2.1 ls) (hs : cl_S H.2.1 st) {mi : am_I} {cp : Nat} : SmT φ H K (am_objI mi cp pc ls st H) (am_objI mi cp pc (sm_L φ ls) (sm_S φ st) K) := by
  unfold am_objI
  split
  · exact sim_obj E hl hs
  · intro pc' ls' st' H' h; cases h
end HEAPS
theorem ok_I (v : Value) : am_isI (sm_v φ v) = am_isI v := by cases v <;> rfl
theorem ok_L (v : Value) : am_isL (sm_v φ v) = am_isL v := by cases v <;> rfl
theorem ok_D (v : Value) : am_isD (sm_v φ v) = am_isD v := by cases v <;> rfl
theorem ok_A (v : Value) : am_isA (sm_v φ v) = am_isA v := by cases v <;> rfl
theorem SmT.no {X Y : am_R} (h : X = none) : SmT φ H K X Y := fun pc ls st H' e => by rw [h] at e; cases e
theorem n32_sp {r : UInt32} {v : Value} {z : Nat} (h : am_n32 r = some v) : sm_v φ v = v ∧ cl_v z v := by
  unfold am_n32 at h
  split at h
  · cases h; exact ⟨rfl, cl_float⟩
  · cases h
theorem n64_sp {r : UInt64} {v : Value} {z : Nat} (h : am_n64 r = some v) : sm_v φ v = v ∧ cl_v z v := by
  unfold am_n64 at h
  split at h
  · cases h; exact ⟨rfl, cl_double⟩
  · cases h
set_option maxHeartbeats 2000000 in
theorem sim_step {mi : am_I} {i : Instr} {pc : Nat} {ls : am_L} {st : List Value} (E : Emb φ H K) (hl : cl_L H.2.1 ls) (hs : cl_S H.2.1 st) (h1 : φ sA = sA) (h2 : sA < H.2.1) : SmT φ H K (am_step sA mi i pc ls st H) (am_step sA mi i pc (sm_L φ ls) (sm_S φ st) K) := by
  cases i with
  | iconst v => exact sim_push E hl hs rfl cl_int
  | bipush v => exact sim_push E hl hs rfl cl_int
  | sipush v => exact sim_push E hl hs rfl cl_int
  | aconst_null => exact sim_push E hl hs rfl cl_null
  | ldc cp => exact sim_pushO E hl hs (fun v hv => by
      cases hq : (am_conL mi.1).lookup cp with
      | none => rw [hq] at hv; cases hv
      | some x => rw [hq] at hv; cases hv; exact ⟨rfl, cl_int⟩)
  | ldc2_w cp => exact sim_pushO E hl hs (fun v hv => by
      cases hq : (am_lngL mi.1).lookup cp with
      | none => rw [hq] at hv; cases hv
      | some x => rw [hq] at hv; cases hv; exact ⟨rfl, cl_long⟩)
  | fconst f =>
    show SmT φ H K (if f = 0 then am_push (pc + 1) ls st H (.float FP.fconst0) else none) (if f = 0 then am_push (pc + 1) (sm_L φ ls) (sm_S φ st) K (.float FP.fconst0) else none)
    split
    · exact sim_push E hl hs rfl cl_float
    · exact SmT.no rfl
  | iload_n k => exact sim_load E hl hs ok_I
  | lload_n k => exact sim_load E hl hs ok_L
  | iload k => exact sim_load E hl hs ok_I
  | lload k => exact sim_load E hl hs ok_L
  | dload k => exact sim_load E hl hs ok_D
  | aload_n k => exact sim_load E hl hs ok_A
  | aload k => exact sim_load E hl hs ok_A
  | istore_n k => exact sim_store E hl hs ok_I
  | lstore_n k => exact sim_store E hl hs ok_L
  | istore k => exact sim_store E hl hs ok_I
  | lstore k => exact sim_store E hl hs ok_L
  | dstore k => exact sim_store E hl hs ok_D
  | astore_n k => exact sim_store E hl hs ok_A
  | astore k => exact sim_store E hl hs ok_A
  | iinc k n => exact sim_iinc E hl hs
  | iadd => simp only [am_step]; exact sim_i2 E hl hs
  | isub => simp only [am_step]; exact sim_i2 E hl hs
  | imul => simp only [am_step]; exact sim_i2 E hl hs
  | iand => simp only [am_step]; exact sim_i2 E hl hs
  | ior => simp only [am_step]; exact sim_i2 E hl hs
  | ixor => simp only [am_step]; exact sim_i2 E hl hs
  | idiv => simp only [am_step]; exact sim_i2 E hl hs
  | irem => simp only [am_step]; exact sim_i2 E hl hs
  | ishl => simp only [am_step]; exact sim_i2 E hl hs
  | ishr => simp only [am_step]; exact sim_i2 E hl hs
  | ineg => exact sim_u1 E hl hs (fun x v hv => by cases x <;> cases hv; exact ⟨rfl, rfl, cl_int⟩)
  | ladd => simp only [am_step]; exact sim_l2 E hl hs (fun x y v hv => by cases hv; exact ⟨rfl, cl_long⟩)
  | lmul => simp only [am_step]; exact sim_l2 E hl hs (fun x y v hv => by cases hv; exact ⟨rfl, cl_long⟩)
  | ldiv =>
    simp only [am_step]
    exact sim_l2 E hl hs (fun x y v hv => by
      split at hv
      · cases hv
      · cases hv; exact ⟨rfl, cl_long⟩)
  | lcmp => simp only [am_step]; exact sim_l2 E hl hs (fun x y v hv => by cases hv; exact ⟨rfl, cl_int⟩)
  | i2l => exact sim_u1 E hl hs (fun x v hv => by cases x <;> cases hv; exact ⟨rfl, rfl, cl_long⟩)
  | l2i => exact sim_u1 E hl hs (fun x v hv => by cases x <;> cases hv; exact ⟨rfl, rfl, cl_int⟩)
  | l2f => exact sim_u1 E hl hs (fun x v hv => by cases x <;> cases hv; exact ⟨rfl, rfl, cl_float⟩)
  | i2f => exact sim_u1 E hl hs (fun x v hv => by cases x <;> cases hv; exact ⟨rfl, rfl, cl_float⟩)
  | f2d => exact sim_u1 E hl hs (fun x v hv => by
      cases x with
      | float y => exact ⟨hv, n64_sp hv⟩
      | _ => cases hv)
  | fdiv => exact sim_f2 E hl hs (fun x y v hv => n32_sp hv)
  | dcmp op => exact sim_d2 E hl hs (fun x y v hv => by cases hv; exact ⟨rfl, cl_int⟩)
  | fcmp op => exact sim_f2 E hl hs (fun x y v hv => by cases hv; exact ⟨rfl, cl_int⟩)
  | dup => exact sim_dup E hl hs
  | dup2 => exact sim_dup2 E hl hs
  | ifCond k off => exact sim_if1 E hl hs
  | if_icmp k off => exact sim_if2 E hl hs
  | ifnonnull off => exact sim_nn E hl hs
  | goto off => exact sim_tgt E hl hs
  | tableswitch d lo hi offs => exact sim_tsw E hl hs
  | lookupswitch d ps => exact sim_lsw E hl hs
  | getfield cp => exact sim_getf E hl hs
  | putfield cp => exact sim_putf E hl hs
  | getstatic cp => exact sim_gets E hl hs h1 h2
  | new cp => exact sim_new E hl hs
  | newarray t =>
    show SmT φ H K (if t = .int then am_newa (pc + 2) ls st H else none) (if t = .int then am_newa (pc + 2) (sm_L φ ls) (sm_S φ st) K else none)
    split
    · exact sim_newa E hl hs
    · exact SmT.no rfl
  | anewarray cp => exact sim_anew E hl hs
  | iaload => exact sim_iald E hl hs
  | iastore => exact sim_iast E hl hs
  | aaload => exact sim_aald E hl hs
  | aastore => exact sim_aast E hl hs
  | arraylength => exact sim_alen E hl hs
  | invokestatic cp => exact sim_special E hl hs
  | invokespecial cp => exact sim_objI E hl hs
  | _ => exact SmT.no rfl
theorem sim_ret {mi : am_I} {i : Instr} {st : List Value} : am_ret mi i (sm_S φ st) = (am_ret mi i st).map (Option.map (sm_v φ)) := by
  have key : ∀ ty : Option FieldType, ∀ v : Int32, (match ty with | some .int => some (some (Value.int v)) | some .boolean => if v = 0 ∨ v = 1 then some (some (Value.int v)) else none | _ => none) = Option.map (Option.map (sm_v φ)) (match ty with | some .int => some (some (Value.int v)) | some .boolean => if v = 0 ∨ v = 1 then some (some (Value.int v)) else none | _ => none) := by
    intro ty v
    rcases ty with _ | ty
    · rfl
    · cases ty <;> first | rfl | (dsimp only; split <;> rfl)
  cases i <;> first | rfl | (rcases st with _ | ⟨v, _ | ⟨w, t⟩⟩ <;> first | rfl | (cases v <;> first | rfl | exact key mi.2.2.2.2.1 _ | (unfold am_ret sm_S; simp only [List.map_cons, List.map_nil, sm_v]; generalize mi.2.2.2.2.1 = ty; rcases ty with _ | ty <;> first | rfl | (cases ty <;> rfl)) | (unfold am_ret sm_S; simp only [List.map_cons, List.map_nil, sm_v]; rfl)) | (unfold am_ret sm_S; simp only [List.map_nil]; generalize mi.2.2.2.2.1 = ty; rcases ty with _ | ty <;> rfl))
theorem cl_ret {mi : am_I} {i : Instr} {st : List Value} {r : Option Value} {z : Nat} (h : am_ret mi i st = some r) (hs : cl_S z st) : ∀ v, r = some v → cl_v z v := by
  intro v hv
  subst hv
  unfold am_ret at h
  split at h
  · split at h
    · cases h; exact cl_int
    · split at h
      · cases h; exact cl_int
      · cases h
    · cases h
  · split at h
    · cases h; exact cl_long
    · cases h
  · split at h
    · cases h; exact cl_float
    · cases h
  · split at h
    · cases h; exact hs.hd
    · cases h
  · split at h <;> cases h
  · cases h
theorem sm_take {n : Nat} {st : List Value} : ((sm_S φ st).take n).reverse = sm_S φ ((st.take n).reverse) := by
  unfold sm_S
  rw [List.map_reverse, List.map_take]
theorem sm_drop {n : Nat} {st : List Value} : (sm_S φ st).drop n = sm_S φ (st.drop n) := by
  unfold sm_S
  rw [List.map_drop]
theorem sim_callS {mi mj : am_I} {k n : Nat} {st : List Value} (hk : ¬ k = 0) : am_callS mi k n mj (sm_S φ st) K = (am_callS mi k n mj st H).map (fun q => (q.1, sm_S φ q.2.1, sm_S φ q.2.2)) := by
  unfold am_callS
  dsimp only
  rw [sm_take, sm_drop, sm_len]
  split
  · by_cases h14 : k = 1 ∨ k = 4
    · rw [if_pos h14, if_pos h14, sm_cats]
      split <;> rfl
    · rw [if_neg h14, if_neg h14]
      generalize st.drop n = D
      rcases D with _ | ⟨v, D⟩
      · rfl
      · cases v
        case ref b =>
          show (if am_cat (sm_S φ D) ≤ 8 then some (mj, Value.ref (φ b) :: sm_S φ (st.take n).reverse, sm_S φ D) else none) = Option.map (fun q => (q.1, sm_S φ q.2.1, sm_S φ q.2.2)) (if am_cat D ≤ 8 then some (mj, Value.ref b :: (st.take n).reverse, D) else none)
          rw [sm_cats]
          split <;> rfl
        all_goals rfl
  · rfl
theorem sim_callV {mi mj mq : am_I} {n : Nat} {st As rest : List Value} (E : Emb φ H K) (h : am_callS mi 0 n mj st H = some (mq, As, rest)) : am_callS mi 0 n mj (sm_S φ st) K = some (mq, sm_S φ As, sm_S φ rest) := by
  unfold am_callS at h ⊢
  dsimp only at h ⊢
  rw [sm_take, sm_drop, sm_len]
  split at h
  · rename_i hc
    rw [if_pos hc, if_neg (by decide)]
    rw [if_neg (by decide)] at h
    generalize st.drop n = D at h ⊢
    rcases D with _ | ⟨v, D⟩
    · cases h
    · cases v
      case ref b =>
        have h : (if am_cat D ≤ 8 then (if 0 = 0 then (match H.1 b with | some (.inr (ci, _)) => if ci = mj.1 then some (mj, Value.ref b :: (st.take n).reverse, D) else none | _ => none) else some (mj, .ref b :: (st.take n).reverse, D)) else none) = some (mq, As, rest) := h
        show (if am_cat (sm_S φ D) ≤ 8 then (if 0 = 0 then (match K.1 (φ b) with | some (.inr (ci, _)) => if ci = mj.1 then some (mj, Value.ref (φ b) :: sm_S φ (st.take n).reverse, sm_S φ D) else none | _ => none) else some (mj, .ref (φ b) :: sm_S φ (st.take n).reverse, sm_S φ D)) else none) = _
        rw [sm_cats]
        split at h
        · rename_i hcat
          rw [if_pos hcat, if_pos rfl]
          rw [if_pos rfl] at h
          split at h
          · rename_i ci fs hb
            rw [E.at hb]
            show (if ci = mj.1 then some (mj, Value.ref (φ b) :: sm_S φ (st.take n).reverse, sm_S φ D) else none) = _
            split at h
            · rename_i e
              rw [if_pos e]
              cases h
              rfl
            · cases h
          · cases h
        · cases h
      all_goals cases h
  · cases h
theorem sim_call {mi mj : am_I} {i : Instr} {st As rest : List Value} (E : Emb φ H K) (h : am_call mi i st H = some (mj, As, rest)) : am_call mi i (sm_S φ st) K = some (mj, sm_S φ As, sm_S φ rest) := by
  unfold am_call at h
  split at h
  · rename_i cp
    split at h
    · rename_i k n mk hlk
      split at h
      · rename_i hk
        subst hk
        show (match (am_callL mi.1).lookup cp with | some (k, n, mj) => if k = 0 then am_callS mi k n mj (sm_S φ st) K else none | none => none) = _
        rw [hlk]
        dsimp only
        rw [if_pos rfl]
        exact sim_callV E h
      · cases h
    · cases h
  · rename_i cp
    split at h
    · rename_i k n mk hlk
      split at h
      · rename_i hk
        show (match (am_callL mi.1).lookup cp with | some (k, n, mj) => if k = 1 ∨ k = 4 then am_callS mi k n mj (sm_S φ st) K else none | none => none) = _
        rw [hlk]
        dsimp only
        rw [if_pos hk, sim_callS (H := H) (by omega), h]
        rfl
      · cases h
    · cases h
  · rename_i cp
    split at h
    · rename_i k n mk hlk
      split at h
      · rename_i hk
        show (match (am_callL mi.1).lookup cp with | some (k, n, mj) => if k = 2 ∨ k = 5 then am_callS mi k n mj (sm_S φ st) K else none | none => none) = _
        rw [hlk]
        dsimp only
        rw [if_pos hk, sim_callS (H := H) (by omega), h]
        rfl
      · cases h
    · cases h
  · cases h
theorem sim_callN {mi : am_I} {i : Instr} {st : List Value} (hv : ∀ cp, ¬ i = .invokevirtual cp) (h : am_call mi i st H = none) : am_call mi i (sm_S φ st) K = none := by
  cases i
  case invokevirtual cp => exact absurd rfl (hv cp)
  case invokestatic cp =>
    have h : (match (am_callL mi.1).lookup cp with | some (k, n, mj) => if k = 1 ∨ k = 4 then am_callS mi k n mj st H else none | none => none) = none := h
    show (match (am_callL mi.1).lookup cp with | some (k, n, mj) => if k = 1 ∨ k = 4 then am_callS mi k n mj (sm_S φ st) K else none | none => none) = none
    generalize (am_callL mi.1).lookup cp = o at h ⊢
    rcases o with _ | ⟨k, n, mj⟩
    · rfl
    · dsimp only at h ⊢
      split
      · rename_i hk
        rw [if_pos hk] at h
        rw [sim_callS (H := H) (by omega), h]
        rfl
      · rfl
  case invokespecial cp =>
    have h : (match (am_callL mi.1).lookup cp with | some (k, n, mj) => if k = 2 ∨ k = 5 then am_callS mi k n mj st H else none | none => none) = none := h
    show (match (am_callL mi.1).lookup cp with | some (k, n, mj) => if k = 2 ∨ k = 5 then am_callS mi k n mj (sm_S φ st) K else none | none => none) = none
    generalize (am_callL mi.1).lookup cp = o at h ⊢
    rcases o with _ | ⟨k, n, mj⟩
    · rfl
    · dsimp only at h ⊢
      split
      · rename_i hk
        rw [if_pos hk] at h
        rw [sim_callS (H := H) (by omega), h]
        rfl
      · rfl
  all_goals rfl
theorem cl_call {mi mj : am_I} {i : Instr} {st As rest : List Value} {z : Nat} (h : am_call mi i st H = some (mj, As, rest)) (hs : cl_S z st) : cl_S z As ∧ cl_S z rest := by
  have key : ∀ (k n : Nat) (mk : am_I), am_callS mi k n mk st H = some (mj, As, rest) → cl_S z As ∧ cl_S z rest := by
    intro k n mk q
    obtain ⟨-, -, -, q⟩ := am_callS_inv q
    rcases q with ⟨-, -, e⟩ | ⟨-, b, Bs, e1, -, e, -⟩
    · subst e
      exact ⟨fun v hv => hs v (List.mem_append_left _ (List.mem_reverse.mpr hv)), fun v hv => hs v (List.mem_append_right _ hv)⟩
    · subst e
      subst e1
      refine ⟨fun v hv => ?_, fun v hv => hs v (List.mem_append_right _ (List.mem_cons_of_mem _ hv))⟩
      rcases List.mem_cons.mp hv with e | e
      · subst e; exact hs _ (List.mem_append_right _ List.mem_cons_self)
      · exact hs v (List.mem_append_left _ (List.mem_reverse.mpr e))
  unfold am_call at h
  split at h
  · split at h
    · split at h
      · exact key _ _ _ h
      · cases h
    · cases h
  · split at h
    · split at h
      · exact key _ _ _ h
      · cases h
    · cases h
  · split at h
    · split at h
      · exact key _ _ _ h
      · cases h
    · cases h
  · cases h
theorem sm_flat : ∀ vs : List Value, am_flat (sm_S φ vs) = sm_L φ (am_flat vs)
  | [] => rfl
  | v :: vs => by
    have ih := sm_flat vs
    unfold am_flat sm_S sm_L at ih ⊢
    rw [List.map_cons, List.flatMap_cons, List.flatMap_cons, List.map_append, ih, sm_cat]
    congr 1
    split <;> rfl
theorem sm_entry (vs : List Value) (n : Nat) : am_entry (sm_S φ vs) n = sm_L φ (am_entry vs n) := by
  unfold am_entry
  rw [sm_flat, sm_lenL]
  unfold sm_L
  rw [List.map_append, List.map_replicate]
  rfl
theorem cl_entry {vs : List Value} {n z : Nat} (h : cl_S z vs) : cl_L z (am_entry vs n) := by
  intro i v hv
  have hm : some v ∈ am_entry vs n := List.mem_of_getElem? hv
  unfold am_entry at hm
  rcases List.mem_append.mp hm with q | q
  · unfold am_flat at q
    obtain ⟨w, hw, q⟩ := List.mem_flatMap.mp q
    split at q
    · rcases List.mem_cons.mp q with e | e
      · cases e; exact h v hw
      · rcases List.mem_cons.mp e with e | e
        · cases e
        · cases e
    · rcases List.mem_cons.mp q with e | e
      · cases e; exact h v hw
      · cases e
  · have := (List.mem_replicate.mp q).2
    cases this
theorem sim_exec : ∀ (n : Nat) (mi : am_I) (pc : Nat) (ls : am_L) (st : List Value) (H : am_H) (r : Option Value) (H' : am_H), am_exec sA n mi pc ls st H = some (r, H') → ∀ K, Emb φ H K → φ sA = sA → sA < H.2.1 → cl_L H.2.1 ls → cl_S H.2.1 st → ∃ K', am_exec sA n mi pc (sm_L φ ls) (sm_S φ st) K = some (r.map (sm_v φ), K') ∧ SR φ H K H' K' ∧ ∀ v, r = some v → cl_v H'.2.1 v
  | 0, _, _, _, _, _, _, _, h => by simp [am_exec] at h
  | n + 1, mi, pc, ls, st, H, r, H', h => by
    intro K E h1 h2 hl hs
    unfold am_exec at h
    unfold am_exec
    split at h
    · cases h
    · split at h
      · rename_i i n0 hd hlen
        rw [if_pos hlen, sim_ret]
        split at h
        · rename_i r0 hr
          cases h
          rw [hr]
          exact ⟨K, rfl, SR.rf E, cl_ret hr hs⟩
        · rename_i hr
          rw [hr]
          dsimp only [Option.map]
          split at h
          · rename_i mj As rest hc
            rw [sim_call E hc]
            dsimp only
            obtain ⟨c1, c2⟩ := cl_call hc hs
            split at h
            · rename_i hf
              rw [sm_flat, sm_lenL, if_pos hf, sm_entry]
              split at h
              · rename_i r1 H1 e1
                obtain ⟨K1, k1, s1, v1⟩ := sim_exec n _ _ _ _ _ _ _ e1 K E h1 h2 (cl_entry c1) (fun v hv => by cases hv)
                have k1 : am_exec sA n mj 0 (sm_L φ (am_entry As mj.2.2.2.1)) [] K = some (r1.map (sm_v φ), K1) := k1
                rw [k1]
                dsimp only
                have hz := s1.2.1.1
                obtain ⟨K2, k2, s2, v2⟩ := sim_exec n _ _ _ _ _ _ _ h K1 s1.1 h1 (by omega) (hl.up hz) (fun v hv => by
                  rcases List.mem_append.mp hv with q | q
                  · exact v1 v (by simpa using q)
                  · exact (c2 v q).up hz)
                have e : sm_S φ (r1.toList ++ rest) = (r1.map (sm_v φ)).toList ++ sm_S φ rest := by
                  unfold sm_S
                  rw [List.map_append]
                  cases r1 <;> rfl
                rw [e] at k2
                exact ⟨K2, k2, s1.tr s2, v2⟩
              · cases h
            · cases h
          · rename_i hc
            split at h
            · rename_i pc' ls' st' H1 hst
              split at h
              · rename_i hm
                rw [sim_callN (H := H) (fun cp e => by subst e; cases hst) hc]
                dsimp only
                obtain ⟨K1, k1, s1, c1, c2⟩ := sim_step (mi := mi) (i := i) (pc := pc) E hl hs h1 h2 _ _ _ _ hst
                rw [k1]
                dsimp only
                obtain ⟨a2, a3⟩ := s1.2.2.1
                rw [if_pos ⟨by omega, by omega⟩]
                obtain ⟨K2, k2, s2, v2⟩ := sim_exec n _ _ _ _ _ _ _ h K1 s1.1 h1 (by omega) c1 c2
                exact ⟨K2, k2, s1.tr s2, v2⟩
              · cases h
            · cases h
      · cases h
end SIM
end
