section
-- ===== PART A: goes FIRST, ahead of the names: the tables' words, and 'selects' of the private methods out of them =====
/-- a private method of a class that the tables say can be made, by its rows of tables_1 -/
def lw_okq (q : MethodName × Nat) : Prop := (q.1.cls ≠ "java/lang/invoke/MethodHandle" ∧ q.1.cls ≠ "java/lang/invoke/VarHandle") ∧ Cond.instantiable q.1.cls q.2 ∈ tables_1 ∧ Cond.privateMethod q.1 ∈ tables_1 ∧ Cond.instanceMethod q.1 ∈ tables_1
theorem lw_p0 : lw_okq (⟨"CardTabulator$History", "at", "(I)LCardTabulator$State;"⟩, 3) := ⟨⟨by decide +kernel, by decide +kernel⟩, List.mem_of_getElem? (i := 133) (by decide +kernel), List.mem_of_getElem? (i := 351) (by decide +kernel), List.mem_of_getElem? (i := 352) (by decide +kernel)⟩
theorem lw_p1 : lw_okq (⟨"CardTabulator$Text", "readBetweenWords", "(I)I"⟩, 7) := ⟨⟨by decide +kernel, by decide +kernel⟩, List.mem_of_getElem? (i := 151) (by decide +kernel), List.mem_of_getElem? (i := 433) (by decide +kernel), List.mem_of_getElem? (i := 434) (by decide +kernel)⟩
theorem lw_p2 : lw_okq (⟨"CardTabulator$Text", "at", "(I)I"⟩, 7) := ⟨⟨by decide +kernel, by decide +kernel⟩, List.mem_of_getElem? (i := 151) (by decide +kernel), List.mem_of_getElem? (i := 437) (by decide +kernel), List.mem_of_getElem? (i := 438) (by decide +kernel)⟩
theorem lw_p3 : lw_okq (⟨"CardTabulator$Text", "digitsOf", "(I)I"⟩, 7) := ⟨⟨by decide +kernel, by decide +kernel⟩, List.mem_of_getElem? (i := 151) (by decide +kernel), List.mem_of_getElem? (i := 444) (by decide +kernel), List.mem_of_getElem? (i := 445) (by decide +kernel)⟩
theorem lw_p4 : lw_okq (⟨"CardTabulator$Text", "readInWord", "(ILCardTabulator$Layout;)I"⟩, 7) := ⟨⟨by decide +kernel, by decide +kernel⟩, List.mem_of_getElem? (i := 151) (by decide +kernel), List.mem_of_getElem? (i := 451) (by decide +kernel), List.mem_of_getElem? (i := 452) (by decide +kernel)⟩
theorem lw_p5 : lw_okq (⟨"CardTabulator$Text", "countDigit", "(I)I"⟩, 7) := ⟨⟨by decide +kernel, by decide +kernel⟩, List.mem_of_getElem? (i := 151) (by decide +kernel), List.mem_of_getElem? (i := 460) (by decide +kernel), List.mem_of_getElem? (i := 461) (by decide +kernel)⟩
theorem lw_p6 : lw_okq (⟨"CardTabulator$Text", "noteFault", "(II)Z"⟩, 7) := ⟨⟨by decide +kernel, by decide +kernel⟩, List.mem_of_getElem? (i := 151) (by decide +kernel), List.mem_of_getElem? (i := 464) (by decide +kernel), List.mem_of_getElem? (i := 465) (by decide +kernel)⟩
theorem lw_p7 : lw_okq (⟨"CardTabulator$Text", "hasWord", "()Z"⟩, 7) := ⟨⟨by decide +kernel, by decide +kernel⟩, List.mem_of_getElem? (i := 151) (by decide +kernel), List.mem_of_getElem? (i := 468) (by decide +kernel), List.mem_of_getElem? (i := 469) (by decide +kernel)⟩
theorem lw_p8 : lw_okq (⟨"CardTabulator$Text", "endsBehindLetter", "()Z"⟩, 7) := ⟨⟨by decide +kernel, by decide +kernel⟩, List.mem_of_getElem? (i := 151) (by decide +kernel), List.mem_of_getElem? (i := 472) (by decide +kernel), List.mem_of_getElem? (i := 473) (by decide +kernel)⟩
theorem lw_p9 : lw_okq (⟨"CardTabulator$Text", "punchNumber", "(LCardTabulator$Card;LCardTabulator$Layout;I)V"⟩, 7) := ⟨⟨by decide +kernel, by decide +kernel⟩, List.mem_of_getElem? (i := 151) (by decide +kernel), List.mem_of_getElem? (i := 495) (by decide +kernel), List.mem_of_getElem? (i := 496) (by decide +kernel)⟩
theorem lw_p10 : lw_okq (⟨"CardTabulator$Layout", "weighedDigits", "(LCardTabulator$Card;I)I"⟩, 2) := ⟨⟨by decide +kernel, by decide +kernel⟩, List.mem_of_getElem? (i := 31) (by decide +kernel), List.mem_of_getElem? (i := 509) (by decide +kernel), List.mem_of_getElem? (i := 510) (by decide +kernel)⟩
theorem lw_p11 : lw_okq (⟨"CardTabulator$Sorter", "findStarts", "(LCardTabulator$Deck;I)V"⟩, 5) := ⟨⟨by decide +kernel, by decide +kernel⟩, List.mem_of_getElem? (i := 182) (by decide +kernel), List.mem_of_getElem? (i := 568) (by decide +kernel), List.mem_of_getElem? (i := 569) (by decide +kernel)⟩
theorem lw_p12 : lw_okq (⟨"CardTabulator", "feedDeck", "(IZ)I"⟩, 9) := ⟨⟨by decide +kernel, by decide +kernel⟩, List.mem_of_getElem? (i := 17) (by decide +kernel), List.mem_of_getElem? (i := 606) (by decide +kernel), List.mem_of_getElem? (i := 607) (by decide +kernel)⟩
theorem lw_p13 : lw_okq (⟨"CardTabulator", "refusal", "(LCardTabulator$Card;IJ)I"⟩, 9) := ⟨⟨by decide +kernel, by decide +kernel⟩, List.mem_of_getElem? (i := 17) (by decide +kernel), List.mem_of_getElem? (i := 611) (by decide +kernel), List.mem_of_getElem? (i := 612) (by decide +kernel)⟩
theorem lw_p14 : lw_okq (⟨"CardTabulator", "faultOfCard", "(LCardTabulator$Card;)I"⟩, 9) := ⟨⟨by decide +kernel, by decide +kernel⟩, List.mem_of_getElem? (i := 17) (by decide +kernel), List.mem_of_getElem? (i := 615) (by decide +kernel), List.mem_of_getElem? (i := 616) (by decide +kernel)⟩
theorem lw_p15 : lw_okq (⟨"CardTabulator", "printJudged", "(II)V"⟩, 9) := ⟨⟨by decide +kernel, by decide +kernel⟩, List.mem_of_getElem? (i := 17) (by decide +kernel), List.mem_of_getElem? (i := 643) (by decide +kernel), List.mem_of_getElem? (i := 644) (by decide +kernel)⟩
def lw_privs_1 : List (MethodName × Nat) := [(⟨"CardTabulator$History", "at", "(I)LCardTabulator$State;"⟩, 3), (⟨"CardTabulator$Text", "readBetweenWords", "(I)I"⟩, 7), (⟨"CardTabulator$Text", "at", "(I)I"⟩, 7), (⟨"CardTabulator$Text", "digitsOf", "(I)I"⟩, 7), (⟨"CardTabulator$Text", "readInWord", "(ILCardTabulator$Layout;)I"⟩, 7), (⟨"CardTabulator$Text", "countDigit", "(I)I"⟩, 7), (⟨"CardTabulator$Text", "noteFault", "(II)Z"⟩, 7), (⟨"CardTabulator$Text", "hasWord", "()Z"⟩, 7), (⟨"CardTabulator$Text", "endsBehindLetter", "()Z"⟩, 7), (⟨"CardTabulator$Text", "punchNumber", "(LCardTabulator$Card;LCardTabulator$Layout;I)V"⟩, 7), (⟨"CardTabulator$Layout", "weighedDigits", "(LCardTabulator$Card;I)I"⟩, 2), (⟨"CardTabulator$Sorter", "findStarts", "(LCardTabulator$Deck;I)V"⟩, 5), (⟨"CardTabulator", "feedDeck", "(IZ)I"⟩, 9), (⟨"CardTabulator", "refusal", "(LCardTabulator$Card;IJ)I"⟩, 9), (⟨"CardTabulator", "faultOfCard", "(LCardTabulator$Card;)I"⟩, 9), (⟨"CardTabulator", "printJudged", "(II)V"⟩, 9)]
theorem lw_r1 : ∀ q ∈ lw_privs_1, lw_okq q := List.forall_mem_cons.mpr ⟨lw_p0, List.forall_mem_cons.mpr ⟨lw_p1, List.forall_mem_cons.mpr ⟨lw_p2, List.forall_mem_cons.mpr ⟨lw_p3, List.forall_mem_cons.mpr ⟨lw_p4, List.forall_mem_cons.mpr ⟨lw_p5, List.forall_mem_cons.mpr ⟨lw_p6, List.forall_mem_cons.mpr ⟨lw_p7, List.forall_mem_cons.mpr ⟨lw_p8, List.forall_mem_cons.mpr ⟨lw_p9, List.forall_mem_cons.mpr ⟨lw_p10, List.forall_mem_cons.mpr ⟨lw_p11, List.forall_mem_cons.mpr ⟨lw_p12, List.forall_mem_cons.mpr ⟨lw_p13, List.forall_mem_cons.mpr ⟨lw_p14, List.forall_mem_cons.mpr ⟨lw_p15, fun _ h => absurd h List.not_mem_nil⟩⟩⟩⟩⟩⟩⟩⟩⟩⟩⟩⟩⟩⟩⟩⟩
theorem lw_p16 : lw_okq (⟨"CardTabulator$Printer", "breakBefore", "(LCardTabulator$Report;LCardTabulator$Totals;)V"⟩, 4) := ⟨⟨by decide +kernel, by decide +kernel⟩, List.mem_of_getElem? (i := 205) (by decide +kernel), List.mem_of_getElem? (i := 660) (by decide +kernel), List.mem_of_getElem? (i := 661) (by decide +kernel)⟩
theorem lw_p17 : lw_okq (⟨"CardTabulator$Printer", "breakWorker", "(LCardTabulator$Report;)V"⟩, 4) := ⟨⟨by decide +kernel, by decide +kernel⟩, List.mem_of_getElem? (i := 205) (by decide +kernel), List.mem_of_getElem? (i := 664) (by decide +kernel), List.mem_of_getElem? (i := 665) (by decide +kernel)⟩
theorem lw_p18 : lw_okq (⟨"CardTabulator$Printer", "breakGroup", "(LCardTabulator$Report;)V"⟩, 4) := ⟨⟨by decide +kernel, by decide +kernel⟩, List.mem_of_getElem? (i := 205) (by decide +kernel), List.mem_of_getElem? (i := 683) (by decide +kernel), List.mem_of_getElem? (i := 684) (by decide +kernel)⟩
theorem lw_p19 : lw_okq (⟨"CardTabulator$Printer", "breakDepartment", "(LCardTabulator$Report;)V"⟩, 4) := ⟨⟨by decide +kernel, by decide +kernel⟩, List.mem_of_getElem? (i := 205) (by decide +kernel), List.mem_of_getElem? (i := 687) (by decide +kernel), List.mem_of_getElem? (i := 688) (by decide +kernel)⟩
theorem lw_p20 : lw_okq (⟨"CardTabulator", "isDeckInOrder", "()Z"⟩, 9) := ⟨⟨by decide +kernel, by decide +kernel⟩, List.mem_of_getElem? (i := 17) (by decide +kernel), List.mem_of_getElem? (i := 769) (by decide +kernel), List.mem_of_getElem? (i := 770) (by decide +kernel)⟩
theorem lw_p21 : lw_okq (⟨"CardTabulator", "acceptedTotal", "(I)I"⟩, 9) := ⟨⟨by decide +kernel, by decide +kernel⟩, List.mem_of_getElem? (i := 17) (by decide +kernel), List.mem_of_getElem? (i := 817) (by decide +kernel), List.mem_of_getElem? (i := 818) (by decide +kernel)⟩
theorem lw_p22 : lw_okq (⟨"CardTabulator$SecondWay", "ofKey", "(J)LCardTabulator$Totals;"⟩, 4) := ⟨⟨by decide +kernel, by decide +kernel⟩, List.mem_of_getElem? (i := 276) (by decide +kernel), List.mem_of_getElem? (i := 843) (by decide +kernel), List.mem_of_getElem? (i := 844) (by decide +kernel)⟩
theorem lw_p23 : lw_okq (⟨"CardTabulator$SecondWay", "put", "(ILCardTabulator$Totals;)V"⟩, 4) := ⟨⟨by decide +kernel, by decide +kernel⟩, List.mem_of_getElem? (i := 276) (by decide +kernel), List.mem_of_getElem? (i := 881) (by decide +kernel), List.mem_of_getElem? (i := 882) (by decide +kernel)⟩
theorem lw_p24 : lw_okq (⟨"CardTabulator", "passByKeyColumns", "(I)V"⟩, 9) := ⟨⟨by decide +kernel, by decide +kernel⟩, List.mem_of_getElem? (i := 17) (by decide +kernel), List.mem_of_getElem? (i := 895) (by decide +kernel), List.mem_of_getElem? (i := 896) (by decide +kernel)⟩
theorem lw_p25 : lw_okq (⟨"CardTabulatorModel", "layField", "(III)V"⟩, 20) := ⟨⟨by decide +kernel, by decide +kernel⟩, List.mem_of_getElem? (i := 912) (by decide +kernel), List.mem_of_getElem? (i := 919) (by decide +kernel), List.mem_of_getElem? (i := 920) (by decide +kernel)⟩
theorem lw_p26 : lw_okq (⟨"CardTabulatorModel", "remember", "()V"⟩, 20) := ⟨⟨by decide +kernel, by decide +kernel⟩, List.mem_of_getElem? (i := 912) (by decide +kernel), List.mem_of_getElem? (i := 995) (by decide +kernel), List.mem_of_getElem? (i := 996) (by decide +kernel)⟩
theorem lw_p27 : lw_okq (⟨"CardTabulatorModel", "first", "(I)I"⟩, 20) := ⟨⟨by decide +kernel, by decide +kernel⟩, List.mem_of_getElem? (i := 912) (by decide +kernel), List.mem_of_getElem? (i := 999) (by decide +kernel), List.mem_of_getElem? (i := 1000) (by decide +kernel)⟩
theorem lw_p28 : lw_okq (⟨"CardTabulatorModel", "put", "(II)I"⟩, 20) := ⟨⟨by decide +kernel, by decide +kernel⟩, List.mem_of_getElem? (i := 912) (by decide +kernel), List.mem_of_getElem? (i := 1010) (by decide +kernel), List.mem_of_getElem? (i := 1011) (by decide +kernel)⟩
theorem lw_p29 : lw_okq (⟨"CardTabulatorModel", "readText", "()V"⟩, 20) := ⟨⟨by decide +kernel, by decide +kernel⟩, List.mem_of_getElem? (i := 912) (by decide +kernel), List.mem_of_getElem? (i := 1023) (by decide +kernel), List.mem_of_getElem? (i := 1024) (by decide +kernel)⟩
theorem lw_p30 : lw_okq (⟨"CardTabulatorModel", "fails", "(II)V"⟩, 20) := ⟨⟨by decide +kernel, by decide +kernel⟩, List.mem_of_getElem? (i := 912) (by decide +kernel), List.mem_of_getElem? (i := 1027) (by decide +kernel), List.mem_of_getElem? (i := 1028) (by decide +kernel)⟩
theorem lw_p31 : lw_okq (⟨"CardTabulatorModel", "width", "(I)I"⟩, 20) := ⟨⟨by decide +kernel, by decide +kernel⟩, List.mem_of_getElem? (i := 912) (by decide +kernel), List.mem_of_getElem? (i := 1034) (by decide +kernel), List.mem_of_getElem? (i := 1035) (by decide +kernel)⟩
def lw_privs_2 : List (MethodName × Nat) := [(⟨"CardTabulator$Printer", "breakBefore", "(LCardTabulator$Report;LCardTabulator$Totals;)V"⟩, 4), (⟨"CardTabulator$Printer", "breakWorker", "(LCardTabulator$Report;)V"⟩, 4), (⟨"CardTabulator$Printer", "breakGroup", "(LCardTabulator$Report;)V"⟩, 4), (⟨"CardTabulator$Printer", "breakDepartment", "(LCardTabulator$Report;)V"⟩, 4), (⟨"CardTabulator", "isDeckInOrder", "()Z"⟩, 9), (⟨"CardTabulator", "acceptedTotal", "(I)I"⟩, 9), (⟨"CardTabulator$SecondWay", "ofKey", "(J)LCardTabulator$Totals;"⟩, 4), (⟨"CardTabulator$SecondWay", "put", "(ILCardTabulator$Totals;)V"⟩, 4), (⟨"CardTabulator", "passByKeyColumns", "(I)V"⟩, 9), (⟨"CardTabulatorModel", "layField", "(III)V"⟩, 20), (⟨"CardTabulatorModel", "remember", "()V"⟩, 20), (⟨"CardTabulatorModel", "first", "(I)I"⟩, 20), (⟨"CardTabulatorModel", "put", "(II)I"⟩, 20), (⟨"CardTabulatorModel", "readText", "()V"⟩, 20), (⟨"CardTabulatorModel", "fails", "(II)V"⟩, 20), (⟨"CardTabulatorModel", "width", "(I)I"⟩, 20)]
theorem lw_r2 : ∀ q ∈ lw_privs_2, lw_okq q := List.forall_mem_cons.mpr ⟨lw_p16, List.forall_mem_cons.mpr ⟨lw_p17, List.forall_mem_cons.mpr ⟨lw_p18, List.forall_mem_cons.mpr ⟨lw_p19, List.forall_mem_cons.mpr ⟨lw_p20, List.forall_mem_cons.mpr ⟨lw_p21, List.forall_mem_cons.mpr ⟨lw_p22, List.forall_mem_cons.mpr ⟨lw_p23, List.forall_mem_cons.mpr ⟨lw_p24, List.forall_mem_cons.mpr ⟨lw_p25, List.forall_mem_cons.mpr ⟨lw_p26, List.forall_mem_cons.mpr ⟨lw_p27, List.forall_mem_cons.mpr ⟨lw_p28, List.forall_mem_cons.mpr ⟨lw_p29, List.forall_mem_cons.mpr ⟨lw_p30, List.forall_mem_cons.mpr ⟨lw_p31, fun _ h => absurd h List.not_mem_nil⟩⟩⟩⟩⟩⟩⟩⟩⟩⟩⟩⟩⟩⟩⟩⟩
theorem lw_p32 : lw_okq (⟨"CardTabulatorModel", "copyCard", "(II)V"⟩, 20) := ⟨⟨by decide +kernel, by decide +kernel⟩, List.mem_of_getElem? (i := 912) (by decide +kernel), List.mem_of_getElem? (i := 1040) (by decide +kernel), List.mem_of_getElem? (i := 1041) (by decide +kernel)⟩
theorem lw_p33 : lw_okq (⟨"CardTabulatorModel", "punchSeen", "()V"⟩, 20) := ⟨⟨by decide +kernel, by decide +kernel⟩, List.mem_of_getElem? (i := 912) (by decide +kernel), List.mem_of_getElem? (i := 1044) (by decide +kernel), List.mem_of_getElem? (i := 1045) (by decide +kernel)⟩
theorem lw_p34 : lw_okq (⟨"CardTabulatorModel", "due", "()I"⟩, 20) := ⟨⟨by decide +kernel, by decide +kernel⟩, List.mem_of_getElem? (i := 912) (by decide +kernel), List.mem_of_getElem? (i := 1048) (by decide +kernel), List.mem_of_getElem? (i := 1049) (by decide +kernel)⟩
theorem lw_p35 : lw_okq (⟨"CardTabulatorModel", "isCard", "(I)Z"⟩, 20) := ⟨⟨by decide +kernel, by decide +kernel⟩, List.mem_of_getElem? (i := 912) (by decide +kernel), List.mem_of_getElem? (i := 1056) (by decide +kernel), List.mem_of_getElem? (i := 1057) (by decide +kernel)⟩
theorem lw_p36 : lw_okq (⟨"CardTabulatorModel", "holdDeck", "()V"⟩, 20) := ⟨⟨by decide +kernel, by decide +kernel⟩, List.mem_of_getElem? (i := 912) (by decide +kernel), List.mem_of_getElem? (i := 1064) (by decide +kernel), List.mem_of_getElem? (i := 1065) (by decide +kernel)⟩
theorem lw_p37 : lw_okq (⟨"CardTabulatorModel", "fromHeld", "(II)V"⟩, 20) := ⟨⟨by decide +kernel, by decide +kernel⟩, List.mem_of_getElem? (i := 912) (by decide +kernel), List.mem_of_getElem? (i := 1068) (by decide +kernel), List.mem_of_getElem? (i := 1069) (by decide +kernel)⟩
theorem lw_p38 : lw_okq (⟨"CardTabulatorModel", "beginPasses", "()V"⟩, 20) := ⟨⟨by decide +kernel, by decide +kernel⟩, List.mem_of_getElem? (i := 912) (by decide +kernel), List.mem_of_getElem? (i := 1087) (by decide +kernel), List.mem_of_getElem? (i := 1088) (by decide +kernel)⟩
theorem lw_p39 : lw_okq (⟨"CardTabulatorModel", "passBy", "(I)V"⟩, 20) := ⟨⟨by decide +kernel, by decide +kernel⟩, List.mem_of_getElem? (i := 912) (by decide +kernel), List.mem_of_getElem? (i := 1091) (by decide +kernel), List.mem_of_getElem? (i := 1092) (by decide +kernel)⟩
theorem lw_p40 : lw_okq (⟨"CardTabulatorModel", "movedCards", "()I"⟩, 20) := ⟨⟨by decide +kernel, by decide +kernel⟩, List.mem_of_getElem? (i := 912) (by decide +kernel), List.mem_of_getElem? (i := 1095) (by decide +kernel), List.mem_of_getElem? (i := 1096) (by decide +kernel)⟩
theorem lw_p41 : lw_okq (⟨"CardTabulatorModel", "runCards", "()V"⟩, 20) := ⟨⟨by decide +kernel, by decide +kernel⟩, List.mem_of_getElem? (i := 912) (by decide +kernel), List.mem_of_getElem? (i := 1107) (by decide +kernel), List.mem_of_getElem? (i := 1108) (by decide +kernel)⟩
theorem lw_p42 : lw_okq (⟨"CardTabulatorModel", "ownReason", "(I)I"⟩, 20) := ⟨⟨by decide +kernel, by decide +kernel⟩, List.mem_of_getElem? (i := 912) (by decide +kernel), List.mem_of_getElem? (i := 1112) (by decide +kernel), List.mem_of_getElem? (i := 1113) (by decide +kernel)⟩
theorem lw_p43 : lw_okq (⟨"CardTabulatorModel", "of", "(II)I"⟩, 20) := ⟨⟨by decide +kernel, by decide +kernel⟩, List.mem_of_getElem? (i := 912) (by decide +kernel), List.mem_of_getElem? (i := 1116) (by decide +kernel), List.mem_of_getElem? (i := 1117) (by decide +kernel)⟩
theorem lw_p44 : lw_okq (⟨"CardTabulatorModel", "read", "(I)V"⟩, 20) := ⟨⟨by decide +kernel, by decide +kernel⟩, List.mem_of_getElem? (i := 912) (by decide +kernel), List.mem_of_getElem? (i := 1120) (by decide +kernel), List.mem_of_getElem? (i := 1121) (by decide +kernel)⟩
theorem lw_p45 : lw_okq (⟨"CardTabulatorModel", "look", "(I)V"⟩, 20) := ⟨⟨by decide +kernel, by decide +kernel⟩, List.mem_of_getElem? (i := 912) (by decide +kernel), List.mem_of_getElem? (i := 1124) (by decide +kernel), List.mem_of_getElem? (i := 1125) (by decide +kernel)⟩
theorem lw_p46 : lw_okq (⟨"CardTabulatorModel", "valueOf", "(I)I"⟩, 20) := ⟨⟨by decide +kernel, by decide +kernel⟩, List.mem_of_getElem? (i := 912) (by decide +kernel), List.mem_of_getElem? (i := 1128) (by decide +kernel), List.mem_of_getElem? (i := 1129) (by decide +kernel)⟩
theorem lw_p47 : lw_okq (⟨"CardTabulatorModel", "printReport", "()V"⟩, 20) := ⟨⟨by decide +kernel, by decide +kernel⟩, List.mem_of_getElem? (i := 912) (by decide +kernel), List.mem_of_getElem? (i := 1137) (by decide +kernel), List.mem_of_getElem? (i := 1138) (by decide +kernel)⟩
def lw_privs_3 : List (MethodName × Nat) := [(⟨"CardTabulatorModel", "copyCard", "(II)V"⟩, 20), (⟨"CardTabulatorModel", "punchSeen", "()V"⟩, 20), (⟨"CardTabulatorModel", "due", "()I"⟩, 20), (⟨"CardTabulatorModel", "isCard", "(I)Z"⟩, 20), (⟨"CardTabulatorModel", "holdDeck", "()V"⟩, 20), (⟨"CardTabulatorModel", "fromHeld", "(II)V"⟩, 20), (⟨"CardTabulatorModel", "beginPasses", "()V"⟩, 20), (⟨"CardTabulatorModel", "passBy", "(I)V"⟩, 20), (⟨"CardTabulatorModel", "movedCards", "()I"⟩, 20), (⟨"CardTabulatorModel", "runCards", "()V"⟩, 20), (⟨"CardTabulatorModel", "ownReason", "(I)I"⟩, 20), (⟨"CardTabulatorModel", "of", "(II)I"⟩, 20), (⟨"CardTabulatorModel", "read", "(I)V"⟩, 20), (⟨"CardTabulatorModel", "look", "(I)V"⟩, 20), (⟨"CardTabulatorModel", "valueOf", "(I)I"⟩, 20), (⟨"CardTabulatorModel", "printReport", "()V"⟩, 20)]
theorem lw_r3 : ∀ q ∈ lw_privs_3, lw_okq q := List.forall_mem_cons.mpr ⟨lw_p32, List.forall_mem_cons.mpr ⟨lw_p33, List.forall_mem_cons.mpr ⟨lw_p34, List.forall_mem_cons.mpr ⟨lw_p35, List.forall_mem_cons.mpr ⟨lw_p36, List.forall_mem_cons.mpr ⟨lw_p37, List.forall_mem_cons.mpr ⟨lw_p38, List.forall_mem_cons.mpr ⟨lw_p39, List.forall_mem_cons.mpr ⟨lw_p40, List.forall_mem_cons.mpr ⟨lw_p41, List.forall_mem_cons.mpr ⟨lw_p42, List.forall_mem_cons.mpr ⟨lw_p43, List.forall_mem_cons.mpr ⟨lw_p44, List.forall_mem_cons.mpr ⟨lw_p45, List.forall_mem_cons.mpr ⟨lw_p46, List.forall_mem_cons.mpr ⟨lw_p47, fun _ h => absurd h List.not_mem_nil⟩⟩⟩⟩⟩⟩⟩⟩⟩⟩⟩⟩⟩⟩⟩⟩
theorem lw_p48 : lw_okq (⟨"CardTabulatorModel", "accepted", "(II)I"⟩, 20) := ⟨⟨by decide +kernel, by decide +kernel⟩, List.mem_of_getElem? (i := 912) (by decide +kernel), List.mem_of_getElem? (i := 1141) (by decide +kernel), List.mem_of_getElem? (i := 1142) (by decide +kernel)⟩
theorem lw_p49 : lw_okq (⟨"CardTabulatorModel", "breaks", "(II)V"⟩, 20) := ⟨⟨by decide +kernel, by decide +kernel⟩, List.mem_of_getElem? (i := 912) (by decide +kernel), List.mem_of_getElem? (i := 1145) (by decide +kernel), List.mem_of_getElem? (i := 1146) (by decide +kernel)⟩
theorem lw_p50 : lw_okq (⟨"CardTabulatorModel", "breakLevel", "(II)V"⟩, 20) := ⟨⟨by decide +kernel, by decide +kernel⟩, List.mem_of_getElem? (i := 912) (by decide +kernel), List.mem_of_getElem? (i := 1149) (by decide +kernel), List.mem_of_getElem? (i := 1150) (by decide +kernel)⟩
theorem lw_p51 : lw_okq (⟨"CardTabulatorModel", "printLine", "(II)V"⟩, 20) := ⟨⟨by decide +kernel, by decide +kernel⟩, List.mem_of_getElem? (i := 912) (by decide +kernel), List.mem_of_getElem? (i := 1157) (by decide +kernel), List.mem_of_getElem? (i := 1158) (by decide +kernel)⟩
theorem lw_p52 : lw_okq (⟨"CardTabulatorModel", "fill", "(IIIII)V"⟩, 20) := ⟨⟨by decide +kernel, by decide +kernel⟩, List.mem_of_getElem? (i := 912) (by decide +kernel), List.mem_of_getElem? (i := 1161) (by decide +kernel), List.mem_of_getElem? (i := 1162) (by decide +kernel)⟩
theorem lw_p53 : lw_okq (⟨"CardTabulatorModel", "wageOf", "(I)I"⟩, 20) := ⟨⟨by decide +kernel, by decide +kernel⟩, List.mem_of_getElem? (i := 912) (by decide +kernel), List.mem_of_getElem? (i := 1165) (by decide +kernel), List.mem_of_getElem? (i := 1166) (by decide +kernel)⟩
theorem lw_p54 : lw_okq (⟨"CardTabulatorModel", "refused", "()I"⟩, 20) := ⟨⟨by decide +kernel, by decide +kernel⟩, List.mem_of_getElem? (i := 912) (by decide +kernel), List.mem_of_getElem? (i := 1189) (by decide +kernel), List.mem_of_getElem? (i := 1190) (by decide +kernel)⟩
theorem lw_p55 : lw_okq (⟨"CardTabulatorModel", "isOrdered", "()Z"⟩, 20) := ⟨⟨by decide +kernel, by decide +kernel⟩, List.mem_of_getElem? (i := 912) (by decide +kernel), List.mem_of_getElem? (i := 1193) (by decide +kernel), List.mem_of_getElem? (i := 1194) (by decide +kernel)⟩
theorem lw_p56 : lw_okq (⟨"CardTabulatorModel", "inSecondWay", "(II)I"⟩, 20) := ⟨⟨by decide +kernel, by decide +kernel⟩, List.mem_of_getElem? (i := 912) (by decide +kernel), List.mem_of_getElem? (i := 1229) (by decide +kernel), List.mem_of_getElem? (i := 1230) (by decide +kernel)⟩
theorem lw_p57 : lw_okq (⟨"CardTabulatorModel", "isLast", "(I)Z"⟩, 20) := ⟨⟨by decide +kernel, by decide +kernel⟩, List.mem_of_getElem? (i := 912) (by decide +kernel), List.mem_of_getElem? (i := 1233) (by decide +kernel), List.mem_of_getElem? (i := 1234) (by decide +kernel)⟩
theorem lw_p58 : lw_okq (⟨"CardTabulatorModel", "isAlike", "(II)Z"⟩, 20) := ⟨⟨by decide +kernel, by decide +kernel⟩, List.mem_of_getElem? (i := 912) (by decide +kernel), List.mem_of_getElem? (i := 1237) (by decide +kernel), List.mem_of_getElem? (i := 1238) (by decide +kernel)⟩
theorem lw_p59 : lw_okq (⟨"CardTabulatorModel", "ofKey", "(II)I"⟩, 20) := ⟨⟨by decide +kernel, by decide +kernel⟩, List.mem_of_getElem? (i := 912) (by decide +kernel), List.mem_of_getElem? (i := 1241) (by decide +kernel), List.mem_of_getElem? (i := 1242) (by decide +kernel)⟩
theorem lw_p60 : lw_okq (⟨"CardTabulatorModel", "ofAll", "(I)I"⟩, 20) := ⟨⟨by decide +kernel, by decide +kernel⟩, List.mem_of_getElem? (i := 912) (by decide +kernel), List.mem_of_getElem? (i := 1249) (by decide +kernel), List.mem_of_getElem? (i := 1250) (by decide +kernel)⟩
theorem lw_p61 : lw_okq (⟨"CardTabulatorModel", "rank", "(I)I"⟩, 20) := ⟨⟨by decide +kernel, by decide +kernel⟩, List.mem_of_getElem? (i := 912) (by decide +kernel), List.mem_of_getElem? (i := 1257) (by decide +kernel), List.mem_of_getElem? (i := 1258) (by decide +kernel)⟩
theorem lw_p62 : lw_okq (⟨"CardTabulatorModel", "keyOf", "(I)J"⟩, 20) := ⟨⟨by decide +kernel, by decide +kernel⟩, List.mem_of_getElem? (i := 912) (by decide +kernel), List.mem_of_getElem? (i := 1261) (by decide +kernel), List.mem_of_getElem? (i := 1262) (by decide +kernel)⟩
theorem lw_p63 : lw_okq (⟨"CardTabulatorModel", "putAside", "()V"⟩, 20) := ⟨⟨by decide +kernel, by decide +kernel⟩, List.mem_of_getElem? (i := 912) (by decide +kernel), List.mem_of_getElem? (i := 1274) (by decide +kernel), List.mem_of_getElem? (i := 1275) (by decide +kernel)⟩
def lw_privs_4 : List (MethodName × Nat) := [(⟨"CardTabulatorModel", "accepted", "(II)I"⟩, 20), (⟨"CardTabulatorModel", "breaks", "(II)V"⟩, 20), (⟨"CardTabulatorModel", "breakLevel", "(II)V"⟩, 20), (⟨"CardTabulatorModel", "printLine", "(II)V"⟩, 20), (⟨"CardTabulatorModel", "fill", "(IIIII)V"⟩, 20), (⟨"CardTabulatorModel", "wageOf", "(I)I"⟩, 20), (⟨"CardTabulatorModel", "refused", "()I"⟩, 20), (⟨"CardTabulatorModel", "isOrdered", "()Z"⟩, 20), (⟨"CardTabulatorModel", "inSecondWay", "(II)I"⟩, 20), (⟨"CardTabulatorModel", "isLast", "(I)Z"⟩, 20), (⟨"CardTabulatorModel", "isAlike", "(II)Z"⟩, 20), (⟨"CardTabulatorModel", "ofKey", "(II)I"⟩, 20), (⟨"CardTabulatorModel", "ofAll", "(I)I"⟩, 20), (⟨"CardTabulatorModel", "rank", "(I)I"⟩, 20), (⟨"CardTabulatorModel", "keyOf", "(I)J"⟩, 20), (⟨"CardTabulatorModel", "putAside", "()V"⟩, 20)]
theorem lw_r4 : ∀ q ∈ lw_privs_4, lw_okq q := List.forall_mem_cons.mpr ⟨lw_p48, List.forall_mem_cons.mpr ⟨lw_p49, List.forall_mem_cons.mpr ⟨lw_p50, List.forall_mem_cons.mpr ⟨lw_p51, List.forall_mem_cons.mpr ⟨lw_p52, List.forall_mem_cons.mpr ⟨lw_p53, List.forall_mem_cons.mpr ⟨lw_p54, List.forall_mem_cons.mpr ⟨lw_p55, List.forall_mem_cons.mpr ⟨lw_p56, List.forall_mem_cons.mpr ⟨lw_p57, List.forall_mem_cons.mpr ⟨lw_p58, List.forall_mem_cons.mpr ⟨lw_p59, List.forall_mem_cons.mpr ⟨lw_p60, List.forall_mem_cons.mpr ⟨lw_p61, List.forall_mem_cons.mpr ⟨lw_p62, List.forall_mem_cons.mpr ⟨lw_p63, fun _ h => absurd h List.not_mem_nil⟩⟩⟩⟩⟩⟩⟩⟩⟩⟩⟩⟩⟩⟩⟩⟩
theorem lw_p64 : lw_okq (⟨"CardTabulatorModel", "makePasses", "(I)V"⟩, 20) := ⟨⟨by decide +kernel, by decide +kernel⟩, List.mem_of_getElem? (i := 912) (by decide +kernel), List.mem_of_getElem? (i := 1278) (by decide +kernel), List.mem_of_getElem? (i := 1279) (by decide +kernel)⟩
theorem lw_p65 : lw_okq (⟨"CardTabulatorModel", "putBack", "()V"⟩, 20) := ⟨⟨by decide +kernel, by decide +kernel⟩, List.mem_of_getElem? (i := 912) (by decide +kernel), List.mem_of_getElem? (i := 1282) (by decide +kernel), List.mem_of_getElem? (i := 1283) (by decide +kernel)⟩
def lw_privs_5 : List (MethodName × Nat) := [(⟨"CardTabulatorModel", "makePasses", "(I)V"⟩, 20), (⟨"CardTabulatorModel", "putBack", "()V"⟩, 20)]
theorem lw_r5 : ∀ q ∈ lw_privs_5, lw_okq q := List.forall_mem_cons.mpr ⟨lw_p64, List.forall_mem_cons.mpr ⟨lw_p65, fun _ h => absurd h List.not_mem_nil⟩⟩
def lw_privs : List (MethodName × Nat) := lw_privs_1 ++ (lw_privs_2 ++ (lw_privs_3 ++ (lw_privs_4 ++ (lw_privs_5))))
def lw_tbl : List Cond := k2_sels lw_privs ++ tables_1
theorem lw_privs_ok : ∀ q ∈ lw_privs, lw_okq q := by
  show ∀ q ∈ lw_privs_1 ++ (lw_privs_2 ++ (lw_privs_3 ++ (lw_privs_4 ++ (lw_privs_5)))), lw_okq q
  exact List.forall_mem_append.mpr ⟨lw_r1, List.forall_mem_append.mpr ⟨lw_r2, List.forall_mem_append.mpr ⟨lw_r3, List.forall_mem_append.mpr ⟨lw_r4, lw_r5⟩⟩⟩⟩
/-- the streams that the claim lets the run draw from -/
abbrev lw_cs : List Choice := [Jvm.Choice.named "NaN.bits"]
theorem lw_bits : nanBits ∈ lw_cs := by first | decide | exact List.mem_cons_self | simp [lw_cs, nanBits]
end
section
def RX0 : String := "CardTabulator$Card"
def TX0 : u_T := fun k => match k with
  | 0 => ("CardTabulator$Card", "columns", "[I", true)
  | 1 => ("CardTabulator$Card", "feeding", "I", false)
  | _ => ("CardTabulator$Card", "tornColumn", "I", false)
def tyX0 : Nat → FieldType := fun k => match k with
  | 0 => .array .int
  | 1 => .int
  | _ => .int
abbrev wsX00 : List Cond := u_ws RX0 TX0 3
theorem nmX0 : ∀ a, a < 3 → ∀ b, b < 3 → a ≠ b → (TX0 a).2.1 ≠ (TX0 b).2.1 := by decide +kernel
theorem tyX0_ok : ∀ k, k < 3 → parseFieldDescriptor (TX0 k).2.2.1 = some (tyX0 k) := by decide +kernel
abbrev cX0_init : ByteArray := prog_2_method_1_code
def yX0_init : MethodName := ⟨RX0, "<init>", "()V"⟩
abbrev cX0_clear : ByteArray := prog_2_method_2_code
def yX0_clear : MethodName := ⟨RX0, "clear", "()V"⟩
abbrev cX0_shows : ByteArray := prog_2_method_3_code
def yX0_shows : MethodName := ⟨RX0, "shows", "(I)I"⟩
abbrev cX0_show : ByteArray := prog_2_method_4_code
def yX0_show : MethodName := ⟨RX0, "show", "(II)V"⟩
abbrev cX0_readFrom : ByteArray := prog_2_method_5_code
def yX0_readFrom : MethodName := ⟨RX0, "readFrom", "(LCardTabulator$Card;)V"⟩
abbrev cX0_copyFrom : ByteArray := prog_2_method_6_code
def yX0_copyFrom : MethodName := ⟨RX0, "copyFrom", "(LCardTabulator$Card;)V"⟩
def RX1 : String := "CardTabulator$Deck"
def TX1 : u_T := fun k => match k with
  | 0 => ("CardTabulator$Deck", "cards", "[LCardTabulator$Card;", true)
  | 1 => ("CardTabulator$Deck", "stray", "LCardTabulator$Card;", true)
  | _ => ("CardTabulator$Deck", "count", "I", false)
def tyX1 : Nat → FieldType := fun k => match k with
  | 0 => .array (.object "CardTabulator$Card")
  | 1 => .object "CardTabulator$Card"
  | _ => .int
abbrev wsX10 : List Cond := u_ws RX1 TX1 3
theorem nmX1 : ∀ a, a < 3 → ∀ b, b < 3 → a ≠ b → (TX1 a).2.1 ≠ (TX1 b).2.1 := by decide +kernel
theorem tyX1_ok : ∀ k, k < 3 → parseFieldDescriptor (TX1 k).2.2.1 = some (tyX1 k) := by decide +kernel
abbrev cX1_init : ByteArray := prog_3_method_1_code
def yX1_init : MethodName := ⟨RX1, "<init>", "()V"⟩
abbrev cX1_size : ByteArray := prog_3_method_2_code
def yX1_size : MethodName := ⟨RX1, "size", "()I"⟩
abbrev cX1_has : ByteArray := prog_3_method_3_code
def yX1_has : MethodName := ⟨RX1, "has", "(I)Z"⟩
abbrev cX1_at : ByteArray := prog_3_method_4_code
def yX1_at : MethodName := ⟨RX1, "at", "(I)LCardTabulator$Card;"⟩
abbrev cX1_put : ByteArray := prog_3_method_5_code
def yX1_put : MethodName := ⟨RX1, "put", "(ILCardTabulator$Card;)V"⟩
abbrev cX1_insertBlank : ByteArray := prog_3_method_6_code
def yX1_insertBlank : MethodName := ⟨RX1, "insertBlank", "(I)LCardTabulator$Card;"⟩
abbrev cX1_remove : ByteArray := prog_3_method_7_code
def yX1_remove : MethodName := ⟨RX1, "remove", "(I)V"⟩
abbrev cX1_carry : ByteArray := prog_3_method_8_code
def yX1_carry : MethodName := ⟨RX1, "carry", "(II)V"⟩
abbrev cX1_copyFrom : ByteArray := prog_3_method_9_code
def yX1_copyFrom : MethodName := ⟨RX1, "copyFrom", "(LCardTabulator$Deck;)V"⟩
def RX2 : String := "CardTabulator$History"
def TX2 : u_T := fun k => match k with
  | 0 => ("CardTabulator$History", "states", "[LCardTabulator$State;", true)
  | 1 => ("CardTabulator$History", "oldest", "I", false)
  | _ => ("CardTabulator$History", "count", "I", false)
def tyX2 : Nat → FieldType := fun k => match k with
  | 0 => .array (.object "CardTabulator$State")
  | 1 => .int
  | _ => .int
abbrev wsX20 : List Cond := u_ws RX2 TX2 3
theorem nmX2 : ∀ a, a < 3 → ∀ b, b < 3 → a ≠ b → (TX2 a).2.1 ≠ (TX2 b).2.1 := by decide +kernel
theorem tyX2_ok : ∀ k, k < 3 → parseFieldDescriptor (TX2 k).2.2.1 = some (tyX2 k) := by decide +kernel
abbrev cX2_init : ByteArray := prog_4_method_1_code
def yX2_init : MethodName := ⟨RX2, "<init>", "()V"⟩
abbrev cX2_size : ByteArray := prog_4_method_2_code
def yX2_size : MethodName := ⟨RX2, "size", "()I"⟩
abbrev cX2_isEmpty : ByteArray := prog_4_method_3_code
def yX2_isEmpty : MethodName := ⟨RX2, "isEmpty", "()Z"⟩
abbrev cX2_record : ByteArray := prog_4_method_4_code
def yX2_record : MethodName := ⟨RX2, "record", "(LCardTabulator$State;)V"⟩
abbrev cX2_restoreInto : ByteArray := prog_4_method_5_code
def yX2_restoreInto : MethodName := ⟨RX2, "restoreInto", "(LCardTabulator$State;)V"⟩
abbrev cX2_at : ByteArray := prog_4_method_6_code
def yX2_at : MethodName := ⟨RX2, "at", "(I)LCardTabulator$State;"⟩
def RX3 : String := "CardTabulator$Layout"
def TX3 : u_T := fun k => match k with
  | 0 => ("CardTabulator$Layout", "firsts", "[I", true)
  | _ => ("CardTabulator$Layout", "widths", "[I", true)
def tyX3 : Nat → FieldType := fun k => match k with
  | 0 => .array .int
  | _ => .array .int
abbrev wsX30 : List Cond := u_ws RX3 TX3 2
theorem nmX3 : ∀ a, a < 2 → ∀ b, b < 2 → a ≠ b → (TX3 a).2.1 ≠ (TX3 b).2.1 := by decide +kernel
theorem tyX3_ok : ∀ k, k < 2 → parseFieldDescriptor (TX3 k).2.2.1 = some (tyX3 k) := by decide +kernel
abbrev cX3_init : ByteArray := prog_5_method_1_code
def yX3_init : MethodName := ⟨RX3, "<init>", "()V"⟩
abbrev cX3_firstOf : ByteArray := prog_5_method_2_code
def yX3_firstOf : MethodName := ⟨RX3, "firstOf", "(I)I"⟩
abbrev cX3_widthOf : ByteArray := prog_5_method_3_code
def yX3_widthOf : MethodName := ⟨RX3, "widthOf", "(I)I"⟩
abbrev cX3_place : ByteArray := prog_5_method_4_code
def yX3_place : MethodName := ⟨RX3, "place", "(III)V"⟩
abbrev cX3_valueOn : ByteArray := prog_5_method_5_code
def yX3_valueOn : MethodName := ⟨RX3, "valueOn", "(LCardTabulator$Card;I)I"⟩
abbrev cX3_dueOn : ByteArray := prog_5_method_6_code
def yX3_dueOn : MethodName := ⟨RX3, "dueOn", "(LCardTabulator$Card;)I"⟩
abbrev cX3_weighedDigits : ByteArray := prog_5_method_7_code
def yX3_weighedDigits : MethodName := ⟨RX3, "weighedDigits", "(LCardTabulator$Card;I)I"⟩
abbrev cX3_keyOn : ByteArray := prog_5_method_8_code
def yX3_keyOn : MethodName := ⟨RX3, "keyOn", "(LCardTabulator$Card;)J"⟩
abbrev cX3_copyFrom : ByteArray := prog_5_method_9_code
def yX3_copyFrom : MethodName := ⟨RX3, "copyFrom", "(LCardTabulator$Layout;)V"⟩
def RX4 : String := "CardTabulator$Printer"
def TX4 : u_T := fun k => match k with
  | 0 => ("CardTabulator$Printer", "worker", "LCardTabulator$Totals;", true)
  | 1 => ("CardTabulator$Printer", "group", "LCardTabulator$Totals;", true)
  | 2 => ("CardTabulator$Printer", "department", "LCardTabulator$Totals;", true)
  | _ => ("CardTabulator$Printer", "all", "LCardTabulator$Totals;", true)
def tyX4 : Nat → FieldType := fun k => match k with
  | 0 => .object "CardTabulator$Totals"
  | 1 => .object "CardTabulator$Totals"
  | 2 => .object "CardTabulator$Totals"
  | _ => .object "CardTabulator$Totals"
abbrev wsX40 : List Cond := u_ws RX4 TX4 4
theorem nmX4 : ∀ a, a < 4 → ∀ b, b < 4 → a ≠ b → (TX4 a).2.1 ≠ (TX4 b).2.1 := by decide +kernel
theorem tyX4_ok : ∀ k, k < 4 → parseFieldDescriptor (TX4 k).2.2.1 = some (tyX4 k) := by decide +kernel
abbrev cX4_init : ByteArray := prog_6_method_1_code
def yX4_init : MethodName := ⟨RX4, "<init>", "()V"⟩
abbrev cX4_begin : ByteArray := prog_6_method_2_code
def yX4_begin : MethodName := ⟨RX4, "begin", "()V"⟩
abbrev cX4_accept : ByteArray := prog_6_method_3_code
def yX4_accept : MethodName := ⟨RX4, "accept", "(LCardTabulator$Report;LCardTabulator$Totals;I)V"⟩
abbrev cX4_end : ByteArray := prog_6_method_4_code
def yX4_end : MethodName := ⟨RX4, "end", "(LCardTabulator$Report;)V"⟩
abbrev cX4_breakBefore : ByteArray := prog_6_method_5_code
def yX4_breakBefore : MethodName := ⟨RX4, "breakBefore", "(LCardTabulator$Report;LCardTabulator$Totals;)V"⟩
abbrev cX4_breakWorker : ByteArray := prog_6_method_6_code
def yX4_breakWorker : MethodName := ⟨RX4, "breakWorker", "(LCardTabulator$Report;)V"⟩
abbrev cX4_breakGroup : ByteArray := prog_6_method_7_code
def yX4_breakGroup : MethodName := ⟨RX4, "breakGroup", "(LCardTabulator$Report;)V"⟩
abbrev cX4_breakDepartment : ByteArray := prog_6_method_8_code
def yX4_breakDepartment : MethodName := ⟨RX4, "breakDepartment", "(LCardTabulator$Report;)V"⟩
def RX5 : String := "CardTabulator$Report"
def TX5 : u_T := fun k => match k with
  | 0 => ("CardTabulator$Report", "lines", "[I", true)
  | 1 => ("CardTabulator$Report", "reasons", "[I", true)
  | 2 => ("CardTabulator$Report", "lineCount", "I", false)
  | 3 => ("CardTabulator$Report", "deckSize", "I", false)
  | _ => ("CardTabulator$Report", "limit", "I", false)
def tyX5 : Nat → FieldType := fun k => match k with
  | 0 => .array .int
  | 1 => .array .int
  | 2 => .int
  | 3 => .int
  | _ => .int
abbrev wsX50 : List Cond := u_ws RX5 TX5 5
theorem nmX5 : ∀ a, a < 5 → ∀ b, b < 5 → a ≠ b → (TX5 a).2.1 ≠ (TX5 b).2.1 := by decide +kernel
theorem tyX5_ok : ∀ k, k < 5 → parseFieldDescriptor (TX5 k).2.2.1 = some (tyX5 k) := by decide +kernel
abbrev cX5_init : ByteArray := prog_7_method_1_code
def yX5_init : MethodName := ⟨RX5, "<init>", "()V"⟩
abbrev cX5_begin : ByteArray := prog_7_method_2_code
def yX5_begin : MethodName := ⟨RX5, "begin", "(II)V"⟩
abbrev cX5_isEmpty : ByteArray := prog_7_method_3_code
def yX5_isEmpty : MethodName := ⟨RX5, "isEmpty", "()Z"⟩
abbrev cX5_has : ByteArray := prog_7_method_4_code
def yX5_has : MethodName := ⟨RX5, "has", "(I)Z"⟩
abbrev cX5_hadCard : ByteArray := prog_7_method_5_code
def yX5_hadCard : MethodName := ⟨RX5, "hadCard", "(I)Z"⟩
abbrev cX5_reasonOf : ByteArray := prog_7_method_6_code
def yX5_reasonOf : MethodName := ⟨RX5, "reasonOf", "(I)I"⟩
abbrev cX5_judge : ByteArray := prog_7_method_7_code
def yX5_judge : MethodName := ⟨RX5, "judge", "(II)V"⟩
abbrev cX5_refusedCards : ByteArray := prog_7_method_8_code
def yX5_refusedCards : MethodName := ⟨RX5, "refusedCards", "()I"⟩
abbrev cX5_number : ByteArray := prog_7_method_9_code
def yX5_number : MethodName := ⟨RX5, "number", "(II)I"⟩
abbrev cX5_lastLine : ByteArray := prog_7_method_10_code
def yX5_lastLine : MethodName := ⟨RX5, "lastLine", "(I)I"⟩
abbrev cX5_sumOfWorkers : ByteArray := prog_7_method_11_code
def yX5_sumOfWorkers : MethodName := ⟨RX5, "sumOfWorkers", "()I"⟩
abbrev cX5_isCard : ByteArray := prog_7_method_12_code
def yX5_isCard : MethodName := ⟨RX5, "isCard", "(I)Z"⟩
abbrev cX5_print : ByteArray := prog_7_method_13_code
def yX5_print : MethodName := ⟨RX5, "print", "(ILCardTabulator$Totals;I)V"⟩
abbrev cX5_readCard : ByteArray := prog_7_method_14_code
def yX5_readCard : MethodName := ⟨RX5, "readCard", "(ILCardTabulator$Totals;)V"⟩
abbrev cX5_copyFrom : ByteArray := prog_7_method_15_code
def yX5_copyFrom : MethodName := ⟨RX5, "copyFrom", "(LCardTabulator$Report;)V"⟩
def RX6 : String := "CardTabulator$SecondWay"
def TX6 : u_T := fun k => match k with
  | 0 => ("CardTabulator$SecondWay", "keys", "[LCardTabulator$Totals;", true)
  | 1 => ("CardTabulator$SecondWay", "stray", "LCardTabulator$Totals;", true)
  | 2 => ("CardTabulator$SecondWay", "slip", "LCardTabulator$Totals;", true)
  | _ => ("CardTabulator$SecondWay", "count", "I", false)
def tyX6 : Nat → FieldType := fun k => match k with
  | 0 => .array (.object "CardTabulator$Totals")
  | 1 => .object "CardTabulator$Totals"
  | 2 => .object "CardTabulator$Totals"
  | _ => .int
abbrev wsX60 : List Cond := u_ws RX6 TX6 4
theorem nmX6 : ∀ a, a < 4 → ∀ b, b < 4 → a ≠ b → (TX6 a).2.1 ≠ (TX6 b).2.1 := by decide +kernel
theorem tyX6_ok : ∀ k, k < 4 → parseFieldDescriptor (TX6 k).2.2.1 = some (tyX6 k) := by decide +kernel
abbrev cX6_init : ByteArray := prog_8_method_1_code
def yX6_init : MethodName := ⟨RX6, "<init>", "()V"⟩
abbrev cX6_size : ByteArray := prog_8_method_2_code
def yX6_size : MethodName := ⟨RX6, "size", "()I"⟩
abbrev cX6_at : ByteArray := prog_8_method_3_code
def yX6_at : MethodName := ⟨RX6, "at", "(I)LCardTabulator$Totals;"⟩
abbrev cX6_reckon : ByteArray := prog_8_method_4_code
def yX6_reckon : MethodName := ⟨RX6, "reckon", "(LCardTabulator$Report;)V"⟩
abbrev cX6_ofKey : ByteArray := prog_8_method_5_code
def yX6_ofKey : MethodName := ⟨RX6, "ofKey", "(J)LCardTabulator$Totals;"⟩
abbrev cX6_sum : ByteArray := prog_8_method_6_code
def yX6_sum : MethodName := ⟨RX6, "sum", "(II)I"⟩
abbrev cX6_numberOf : ByteArray := prog_8_method_7_code
def yX6_numberOf : MethodName := ⟨RX6, "numberOf", "(LCardTabulator$Totals;I)I"⟩
abbrev cX6_rank : ByteArray := prog_8_method_8_code
def yX6_rank : MethodName := ⟨RX6, "rank", "()V"⟩
abbrev cX6_put : ByteArray := prog_8_method_9_code
def yX6_put : MethodName := ⟨RX6, "put", "(ILCardTabulator$Totals;)V"⟩
abbrev cX6_isAhead : ByteArray := prog_8_method_10_code
def yX6_isAhead : MethodName := ⟨RX6, "isAhead", "(LCardTabulator$Totals;LCardTabulator$Totals;)Z"⟩
def RX7 : String := "CardTabulator$Sorter"
def TX7 : u_T := fun k => match k with
  | 0 => ("CardTabulator$Sorter", "order", "[I", true)
  | 1 => ("CardTabulator$Sorter", "sorted", "[I", true)
  | 2 => ("CardTabulator$Sorter", "starts", "[I", true)
  | 3 => ("CardTabulator$Sorter", "cards", "[LCardTabulator$Card;", true)
  | _ => ("CardTabulator$Sorter", "count", "I", false)
def tyX7 : Nat → FieldType := fun k => match k with
  | 0 => .array .int
  | 1 => .array .int
  | 2 => .array .int
  | 3 => .array (.object "CardTabulator$Card")
  | _ => .int
abbrev wsX70 : List Cond := u_ws RX7 TX7 5
theorem nmX7 : ∀ a, a < 5 → ∀ b, b < 5 → a ≠ b → (TX7 a).2.1 ≠ (TX7 b).2.1 := by decide +kernel
theorem tyX7_ok : ∀ k, k < 5 → parseFieldDescriptor (TX7 k).2.2.1 = some (tyX7 k) := by decide +kernel
abbrev cX7_init : ByteArray := prog_9_method_1_code
def yX7_init : MethodName := ⟨RX7, "<init>", "()V"⟩
abbrev cX7_begin : ByteArray := prog_9_method_2_code
def yX7_begin : MethodName := ⟨RX7, "begin", "(LCardTabulator$Deck;)V"⟩
abbrev cX7_passBy : ByteArray := prog_9_method_3_code
def yX7_passBy : MethodName := ⟨RX7, "passBy", "(LCardTabulator$Deck;I)V"⟩
abbrev cX7_findStarts : ByteArray := prog_9_method_4_code
def yX7_findStarts : MethodName := ⟨RX7, "findStarts", "(LCardTabulator$Deck;I)V"⟩
abbrev cX7_stackOf : ByteArray := prog_9_method_5_code
def yX7_stackOf : MethodName := ⟨RX7, "stackOf", "(LCardTabulator$Card;I)I"⟩
abbrev cX7_arrange : ByteArray := prog_9_method_6_code
def yX7_arrange : MethodName := ⟨RX7, "arrange", "(LCardTabulator$Deck;)I"⟩
abbrev cX7_isInKeyOrder : ByteArray := prog_9_method_7_code
def yX7_isInKeyOrder : MethodName := ⟨RX7, "isInKeyOrder", "(LCardTabulator$Deck;LCardTabulator$Layout;)Z"⟩
def RX8 : String := "CardTabulator$State"
def TX8 : u_T := fun k => match k with
  | 0 => ("CardTabulator$State", "layout", "LCardTabulator$Layout;", true)
  | 1 => ("CardTabulator$State", "deck", "LCardTabulator$Deck;", true)
  | 2 => ("CardTabulator$State", "report", "LCardTabulator$Report;", true)
  | 3 => ("CardTabulator$State", "settings", "[I", true)
  | _ => ("CardTabulator$State", "controls", "[I", true)
def tyX8 : Nat → FieldType := fun k => match k with
  | 0 => .object "CardTabulator$Layout"
  | 1 => .object "CardTabulator$Deck"
  | 2 => .object "CardTabulator$Report"
  | 3 => .array .int
  | _ => .array .int
abbrev wsX80 : List Cond := u_ws RX8 TX8 5
theorem nmX8 : ∀ a, a < 5 → ∀ b, b < 5 → a ≠ b → (TX8 a).2.1 ≠ (TX8 b).2.1 := by decide +kernel
theorem tyX8_ok : ∀ k, k < 5 → parseFieldDescriptor (TX8 k).2.2.1 = some (tyX8 k) := by decide +kernel
abbrev cX8_init : ByteArray := prog_10_method_1_code
def yX8_init : MethodName := ⟨RX8, "<init>", "()V"⟩
abbrev cX8_settingOf : ByteArray := prog_10_method_2_code
def yX8_settingOf : MethodName := ⟨RX8, "settingOf", "(I)I"⟩
abbrev cX8_copyFrom : ByteArray := prog_10_method_3_code
def yX8_copyFrom : MethodName := ⟨RX8, "copyFrom", "(LCardTabulator$State;)V"⟩
def RX9 : String := "CardTabulator$Text"
def TX9 : u_T := fun k => match k with
  | 0 => ("CardTabulator$Text", "bytes", "[I", true)
  | 1 => ("CardTabulator$Text", "digits", "[I", true)
  | 2 => ("CardTabulator$Text", "starts", "[I", true)
  | 3 => ("CardTabulator$Text", "length", "I", false)
  | 4 => ("CardTabulator$Text", "word", "I", false)
  | 5 => ("CardTabulator$Text", "faultKind", "I", false)
  | _ => ("CardTabulator$Text", "faultPlace", "I", false)
def tyX9 : Nat → FieldType := fun k => match k with
  | 0 => .array .int
  | 1 => .array .int
  | 2 => .array .int
  | 3 => .int
  | 4 => .int
  | 5 => .int
  | _ => .int
abbrev wsX90 : List Cond := u_ws RX9 TX9 7
theorem nmX9 : ∀ a, a < 7 → ∀ b, b < 7 → a ≠ b → (TX9 a).2.1 ≠ (TX9 b).2.1 := by decide +kernel
theorem tyX9_ok : ∀ k, k < 7 → parseFieldDescriptor (TX9 k).2.2.1 = some (tyX9 k) := by decide +kernel
abbrev cX9_init : ByteArray := prog_11_method_1_code
def yX9_init : MethodName := ⟨RX9, "<init>", "()V"⟩
abbrev cX9_size : ByteArray := prog_11_method_2_code
def yX9_size : MethodName := ⟨RX9, "size", "()I"⟩
abbrev cX9_clear : ByteArray := prog_11_method_3_code
def yX9_clear : MethodName := ⟨RX9, "clear", "()V"⟩
abbrev cX9_append : ByteArray := prog_11_method_4_code
def yX9_append : MethodName := ⟨RX9, "append", "(I)V"⟩
abbrev cX9_at : ByteArray := prog_11_method_5_code
def yX9_at : MethodName := ⟨RX9, "at", "(I)I"⟩
abbrev cX9_readsAsCard : ByteArray := prog_11_method_6_code
def yX9_readsAsCard : MethodName := ⟨RX9, "readsAsCard", "(LCardTabulator$Layout;)Z"⟩
abbrev cX9_noteFault : ByteArray := prog_11_method_7_code
def yX9_noteFault : MethodName := ⟨RX9, "noteFault", "(II)Z"⟩
abbrev cX9_readBetweenWords : ByteArray := prog_11_method_8_code
def yX9_readBetweenWords : MethodName := ⟨RX9, "readBetweenWords", "(I)I"⟩
abbrev cX9_readInWord : ByteArray := prog_11_method_9_code
def yX9_readInWord : MethodName := ⟨RX9, "readInWord", "(ILCardTabulator$Layout;)I"⟩
abbrev cX9_countDigit : ByteArray := prog_11_method_10_code
def yX9_countDigit : MethodName := ⟨RX9, "countDigit", "(I)I"⟩
abbrev cX9_hasWord : ByteArray := prog_11_method_11_code
def yX9_hasWord : MethodName := ⟨RX9, "hasWord", "()Z"⟩
abbrev cX9_endsBehindLetter : ByteArray := prog_11_method_12_code
def yX9_endsBehindLetter : MethodName := ⟨RX9, "endsBehindLetter", "()Z"⟩
abbrev cX9_digitsOf : ByteArray := prog_11_method_13_code
def yX9_digitsOf : MethodName := ⟨RX9, "digitsOf", "(I)I"⟩
abbrev cX9_isTextField : ByteArray := prog_11_method_14_code
def yX9_isTextField : MethodName := ⟨RX9, "isTextField", "(I)Z"⟩
abbrev cX9_fieldOf : ByteArray := prog_11_method_15_code
def yX9_fieldOf : MethodName := ⟨RX9, "fieldOf", "(I)I"⟩
abbrev cX9_punchOn : ByteArray := prog_11_method_16_code
def yX9_punchOn : MethodName := ⟨RX9, "punchOn", "(LCardTabulator$Card;LCardTabulator$Layout;)V"⟩
abbrev cX9_punchNumber : ByteArray := prog_11_method_17_code
def yX9_punchNumber : MethodName := ⟨RX9, "punchNumber", "(LCardTabulator$Card;LCardTabulator$Layout;I)V"⟩
def RX10 : String := "CardTabulator$Totals"
def TX10 : u_T := fun k => match k with
  | 0 => ("CardTabulator$Totals", "department", "I", false)
  | 1 => ("CardTabulator$Totals", "group", "I", false)
  | 2 => ("CardTabulator$Totals", "worker", "I", false)
  | 3 => ("CardTabulator$Totals", "rate", "I", false)
  | 4 => ("CardTabulator$Totals", "cards", "I", false)
  | 5 => ("CardTabulator$Totals", "hours", "I", false)
  | 6 => ("CardTabulator$Totals", "wages", "I", false)
  | _ => ("CardTabulator$Totals", "overtime", "I", false)
def tyX10 : Nat → FieldType := fun k => match k with
  | 0 => .int
  | 1 => .int
  | 2 => .int
  | 3 => .int
  | 4 => .int
  | 5 => .int
  | 6 => .int
  | _ => .int
abbrev wsX100 : List Cond := u_ws RX10 TX10 8
theorem nmX10 : ∀ a, a < 8 → ∀ b, b < 8 → a ≠ b → (TX10 a).2.1 ≠ (TX10 b).2.1 := by decide +kernel
theorem tyX10_ok : ∀ k, k < 8 → parseFieldDescriptor (TX10 k).2.2.1 = some (tyX10 k) := by decide +kernel
abbrev cX10_init : ByteArray := prog_12_method_1_code
def yX10_init : MethodName := ⟨RX10, "<init>", "()V"⟩
abbrev cX10_keyOf : ByteArray := prog_12_method_2_code
def yX10_keyOf : MethodName := ⟨RX10, "keyOf", "(III)J"⟩
abbrev cX10_key : ByteArray := prog_12_method_3_code
def yX10_key : MethodName := ⟨RX10, "key", "()J"⟩
abbrev cX10_clear : ByteArray := prog_12_method_4_code
def yX10_clear : MethodName := ⟨RX10, "clear", "()V"⟩
abbrev cX10_fillFrom : ByteArray := prog_12_method_5_code
def yX10_fillFrom : MethodName := ⟨RX10, "fillFrom", "(LCardTabulator$Card;LCardTabulator$Layout;)Z"⟩
abbrev cX10_addCard : ByteArray := prog_12_method_6_code
def yX10_addCard : MethodName := ⟨RX10, "addCard", "(LCardTabulator$Totals;)V"⟩
abbrev cX10_overtimeBeyond : ByteArray := prog_12_method_7_code
def yX10_overtimeBeyond : MethodName := ⟨RX10, "overtimeBeyond", "(I)I"⟩
abbrev cX10_addOvertime : ByteArray := prog_12_method_8_code
def yX10_addOvertime : MethodName := ⟨RX10, "addOvertime", "(I)V"⟩
def RX11 : String := "CardTabulator"
def TX11 : u_T := fun k => match k with
  | 0 => ("CardTabulator", "now", "LCardTabulator$State;", true)
  | 1 => ("CardTabulator", "past", "LCardTabulator$History;", true)
  | 2 => ("CardTabulator", "images", "[LCardTabulator$State;", true)
  | 3 => ("CardTabulator", "text", "LCardTabulator$Text;", true)
  | 4 => ("CardTabulator", "sorter", "LCardTabulator$Sorter;", true)
  | 5 => ("CardTabulator", "printer", "LCardTabulator$Printer;", true)
  | 6 => ("CardTabulator", "secondWay", "LCardTabulator$SecondWay;", true)
  | 7 => ("CardTabulator", "read", "LCardTabulator$Card;", true)
  | _ => ("CardTabulator", "slip", "LCardTabulator$Totals;", true)
def tyX11 : Nat → FieldType := fun k => match k with
  | 0 => .object "CardTabulator$State"
  | 1 => .object "CardTabulator$History"
  | 2 => .array (.object "CardTabulator$State")
  | 3 => .object "CardTabulator$Text"
  | 4 => .object "CardTabulator$Sorter"
  | 5 => .object "CardTabulator$Printer"
  | 6 => .object "CardTabulator$SecondWay"
  | 7 => .object "CardTabulator$Card"
  | _ => .object "CardTabulator$Totals"
abbrev wsX110 : List Cond := u_ws RX11 TX11 9
theorem nmX11 : ∀ a, a < 9 → ∀ b, b < 9 → a ≠ b → (TX11 a).2.1 ≠ (TX11 b).2.1 := by decide +kernel
theorem tyX11_ok : ∀ k, k < 9 → parseFieldDescriptor (TX11 k).2.2.1 = some (tyX11 k) := by decide +kernel
abbrev cX11_init : ByteArray := prog_1_method_1_code
def yX11_init : MethodName := ⟨RX11, "<init>", "()V"⟩
abbrev cX11_lay : ByteArray := prog_1_method_2_code
def yX11_lay : MethodName := ⟨RX11, "lay", "(III)I"⟩
abbrev cX11_set : ByteArray := prog_1_method_3_code
def yX11_set : MethodName := ⟨RX11, "set", "(II)I"⟩
abbrev cX11_control : ByteArray := prog_1_method_4_code
def yX11_control : MethodName := ⟨RX11, "control", "(II)I"⟩
abbrev cX11_punch : ByteArray := prog_1_method_5_code
def yX11_punch : MethodName := ⟨RX11, "punch", "(I)I"⟩
abbrev cX11_take : ByteArray := prog_1_method_6_code
def yX11_take : MethodName := ⟨RX11, "take", "(I)I"⟩
abbrev cX11_move : ByteArray := prog_1_method_7_code
def yX11_move : MethodName := ⟨RX11, "move", "(II)I"⟩
abbrev cX11_repunch : ByteArray := prog_1_method_8_code
def yX11_repunch : MethodName := ⟨RX11, "repunch", "(III)I"⟩
abbrev cX11_mark : ByteArray := prog_1_method_9_code
def yX11_mark : MethodName := ⟨RX11, "mark", "(III)I"⟩
abbrev cX11_pass : ByteArray := prog_1_method_10_code
def yX11_pass : MethodName := ⟨RX11, "pass", "(I)I"⟩
abbrev cX11_sort : ByteArray := prog_1_method_11_code
def yX11_sort : MethodName := ⟨RX11, "sort", "(I)I"⟩
abbrev cX11_run : ByteArray := prog_1_method_12_code
def yX11_run : MethodName := ⟨RX11, "run", "()I"⟩
abbrev cX11_undo : ByteArray := prog_1_method_13_code
def yX11_undo : MethodName := ⟨RX11, "undo", "()I"⟩
abbrev cX11_write : ByteArray := prog_1_method_14_code
def yX11_write : MethodName := ⟨RX11, "write", "(I)I"⟩
abbrev cX11_wipe : ByteArray := prog_1_method_15_code
def yX11_wipe : MethodName := ⟨RX11, "wipe", "()I"⟩
abbrev cX11_fault : ByteArray := prog_1_method_16_code
def yX11_fault : MethodName := ⟨RX11, "fault", "(I)I"⟩
abbrev cX11_told : ByteArray := prog_1_method_17_code
def yX11_told : MethodName := ⟨RX11, "told", "(I)I"⟩
abbrev cX11_setting : ByteArray := prog_1_method_18_code
def yX11_setting : MethodName := ⟨RX11, "setting", "(I)I"⟩
abbrev cX11_field : ByteArray := prog_1_method_19_code
def yX11_field : MethodName := ⟨RX11, "field", "(II)I"⟩
abbrev cX11_column : ByteArray := prog_1_method_20_code
def yX11_column : MethodName := ⟨RX11, "column", "(II)I"⟩
abbrev cX11_card : ByteArray := prog_1_method_21_code
def yX11_card : MethodName := ⟨RX11, "card", "(II)I"⟩
abbrev cX11_line : ByteArray := prog_1_method_22_code
def yX11_line : MethodName := ⟨RX11, "line", "(II)I"⟩
abbrev cX11_reason : ByteArray := prog_1_method_23_code
def yX11_reason : MethodName := ⟨RX11, "reason", "(I)I"⟩
abbrev cX11_differs : ByteArray := prog_1_method_24_code
def yX11_differs : MethodName := ⟨RX11, "differs", "(I)I"⟩
abbrev cX11_again : ByteArray := prog_1_method_25_code
def yX11_again : MethodName := ⟨RX11, "again", "(II)I"⟩
abbrev cX11_agrees : ByteArray := prog_1_method_26_code
def yX11_agrees : MethodName := ⟨RX11, "agrees", "()I"⟩
abbrev cX11_ranked : ByteArray := prog_1_method_27_code
def yX11_ranked : MethodName := ⟨RX11, "ranked", "(II)I"⟩
abbrev cX11_mean : ByteArray := prog_1_method_28_code
def yX11_mean : MethodName := ⟨RX11, "mean", "()F"⟩
abbrev cX11_passes : ByteArray := prog_1_method_29_code
def yX11_passes : MethodName := ⟨RX11, "passes", "()I"⟩
abbrev cX11_accepts : ByteArray := prog_1_method_30_code
def yX11_accepts : MethodName := ⟨RX11, "accepts", "(I)I"⟩
abbrev cX11_keep : ByteArray := prog_1_method_31_code
def yX11_keep : MethodName := ⟨RX11, "keep", "(I)I"⟩
abbrev cX11_back : ByteArray := prog_1_method_32_code
def yX11_back : MethodName := ⟨RX11, "back", "(I)I"⟩
abbrev cX11_feedDeck : ByteArray := prog_1_method_33_code
def yX11_feedDeck : MethodName := ⟨RX11, "feedDeck", "(IZ)I"⟩
abbrev cX11_printJudged : ByteArray := prog_1_method_34_code
def yX11_printJudged : MethodName := ⟨RX11, "printJudged", "(II)V"⟩
abbrev cX11_refusal : ByteArray := prog_1_method_35_code
def yX11_refusal : MethodName := ⟨RX11, "refusal", "(LCardTabulator$Card;IJ)I"⟩
abbrev cX11_faultOfCard : ByteArray := prog_1_method_36_code
def yX11_faultOfCard : MethodName := ⟨RX11, "faultOfCard", "(LCardTabulator$Card;)I"⟩
abbrev cX11_acceptedTotal : ByteArray := prog_1_method_37_code
def yX11_acceptedTotal : MethodName := ⟨RX11, "acceptedTotal", "(I)I"⟩
abbrev cX11_isDeckInOrder : ByteArray := prog_1_method_38_code
def yX11_isDeckInOrder : MethodName := ⟨RX11, "isDeckInOrder", "()Z"⟩
abbrev cX11_passByKeyColumns : ByteArray := prog_1_method_39_code
def yX11_passByKeyColumns : MethodName := ⟨RX11, "passByKeyColumns", "(I)V"⟩
abbrev cX11_isWithin : ByteArray := prog_1_method_40_code
def yX11_isWithin : MethodName := ⟨RX11, "isWithin", "(III)Z"⟩
abbrev cX11_isField : ByteArray := prog_1_method_41_code
def yX11_isField : MethodName := ⟨RX11, "isField", "(I)Z"⟩
abbrev cX11_isColumn : ByteArray := prog_1_method_42_code
def yX11_isColumn : MethodName := ⟨RX11, "isColumn", "(I)Z"⟩
abbrev cX11_isSetting : ByteArray := prog_1_method_43_code
def yX11_isSetting : MethodName := ⟨RX11, "isSetting", "(I)Z"⟩
abbrev cX11_isControl : ByteArray := prog_1_method_44_code
def yX11_isControl : MethodName := ⟨RX11, "isControl", "(I)Z"⟩
abbrev cX11_fits : ByteArray := prog_1_method_45_code
def yX11_fits : MethodName := ⟨RX11, "fits", "(III)Z"⟩
def RX12 : String := "CardTabulatorModel"
def TX12 : u_T := fun k => match k with
  | 0 => ("CardTabulatorModel", "w", "[I", true)
  | 1 => ("CardTabulatorModel", "past", "[I", true)
  | 2 => ("CardTabulatorModel", "pastMany", "I", false)
  | 3 => ("CardTabulatorModel", "images", "[I", true)
  | 4 => ("CardTabulatorModel", "filled", "I", false)
  | 5 => ("CardTabulatorModel", "text", "[I", true)
  | 6 => ("CardTabulatorModel", "length", "I", false)
  | 7 => ("CardTabulatorModel", "faultKind", "I", false)
  | 8 => ("CardTabulatorModel", "faultPlace", "I", false)
  | 9 => ("CardTabulatorModel", "seen", "[I", true)
  | 10 => ("CardTabulatorModel", "told", "[I", true)
  | 11 => ("CardTabulatorModel", "digits", "[I", true)
  | 12 => ("CardTabulatorModel", "wrongKind", "I", false)
  | 13 => ("CardTabulatorModel", "wrongPlace", "I", false)
  | 14 => ("CardTabulatorModel", "held", "[I", true)
  | 15 => ("CardTabulatorModel", "number", "[I", true)
  | 16 => ("CardTabulatorModel", "earlier", "[I", true)
  | 17 => ("CardTabulatorModel", "numbers", "[I", true)
  | 18 => ("CardTabulatorModel", "sums", "[I", true)
  | _ => ("CardTabulatorModel", "aside", "[I", true)
def tyX12 : Nat → FieldType := fun k => match k with
  | 0 => .array .int
  | 1 => .array .int
  | 2 => .int
  | 3 => .array .int
  | 4 => .int
  | 5 => .array .int
  | 6 => .int
  | 7 => .int
  | 8 => .int
  | 9 => .array .int
  | 10 => .array .int
  | 11 => .array .int
  | 12 => .int
  | 13 => .int
  | 14 => .array .int
  | 15 => .array .int
  | 16 => .array .int
  | 17 => .array .int
  | 18 => .array .int
  | _ => .array .int
abbrev wsX120 : List Cond := u_ws RX12 TX12 20
theorem nmX12 : ∀ a, a < 20 → ∀ b, b < 20 → a ≠ b → (TX12 a).2.1 ≠ (TX12 b).2.1 := by decide +kernel
theorem tyX12_ok : ∀ k, k < 20 → parseFieldDescriptor (TX12 k).2.2.1 = some (tyX12 k) := by decide +kernel
abbrev cX12_init : ByteArray := prog_14_method_1_code
def yX12_init : MethodName := ⟨RX12, "<init>", "()V"⟩
abbrev cX12_isIn : ByteArray := prog_14_method_3_code
def yX12_isIn : MethodName := ⟨RX12, "isIn", "(III)Z"⟩
abbrev cX12_layField : ByteArray := prog_14_method_4_code
def yX12_layField : MethodName := ⟨RX12, "layField", "(III)V"⟩
abbrev cX12_remember : ByteArray := prog_14_method_5_code
def yX12_remember : MethodName := ⟨RX12, "remember", "()V"⟩
abbrev cX12_isCard : ByteArray := prog_14_method_6_code
def yX12_isCard : MethodName := ⟨RX12, "isCard", "(I)Z"⟩
abbrev cX12_isField : ByteArray := prog_14_method_7_code
def yX12_isField : MethodName := ⟨RX12, "isField", "(I)Z"⟩
abbrev cX12_isColumn : ByteArray := prog_14_method_8_code
def yX12_isColumn : MethodName := ⟨RX12, "isColumn", "(I)Z"⟩
abbrev cX12_of : ByteArray := prog_14_method_9_code
def yX12_of : MethodName := ⟨RX12, "of", "(II)I"⟩
abbrev cX12_first : ByteArray := prog_14_method_10_code
def yX12_first : MethodName := ⟨RX12, "first", "(I)I"⟩
abbrev cX12_width : ByteArray := prog_14_method_11_code
def yX12_width : MethodName := ⟨RX12, "width", "(I)I"⟩
abbrev cX12_look : ByteArray := prog_14_method_12_code
def yX12_look : MethodName := ⟨RX12, "look", "(I)V"⟩
abbrev cX12_read : ByteArray := prog_14_method_13_code
def yX12_read : MethodName := ⟨RX12, "read", "(I)V"⟩
abbrev cX12_valueOf : ByteArray := prog_14_method_14_code
def yX12_valueOf : MethodName := ⟨RX12, "valueOf", "(I)I"⟩
abbrev cX12_due : ByteArray := prog_14_method_15_code
def yX12_due : MethodName := ⟨RX12, "due", "()I"⟩
abbrev cX12_ownReason : ByteArray := prog_14_method_16_code
def yX12_ownReason : MethodName := ⟨RX12, "ownReason", "(I)I"⟩
abbrev cX12_key : ByteArray := prog_14_method_17_code
def yX12_key : MethodName := ⟨RX12, "key", "(III)J"⟩
abbrev cX12_fails : ByteArray := prog_14_method_18_code
def yX12_fails : MethodName := ⟨RX12, "fails", "(II)V"⟩
abbrev cX12_fieldOf : ByteArray := prog_14_method_19_code
def yX12_fieldOf : MethodName := ⟨RX12, "fieldOf", "(I)I"⟩
abbrev cX12_readText : ByteArray := prog_14_method_20_code
def yX12_readText : MethodName := ⟨RX12, "readText", "()V"⟩
abbrev cX12_punchSeen : ByteArray := prog_14_method_21_code
def yX12_punchSeen : MethodName := ⟨RX12, "punchSeen", "()V"⟩
abbrev cX12_lay : ByteArray := prog_14_method_22_code
def yX12_lay : MethodName := ⟨RX12, "lay", "(III)I"⟩
abbrev cX12_isOf : ByteArray := prog_14_method_23_code
def yX12_isOf : MethodName := ⟨RX12, "isOf", "(II)Z"⟩
abbrev cX12_put : ByteArray := prog_14_method_24_code
def yX12_put : MethodName := ⟨RX12, "put", "(II)I"⟩
abbrev cX12_set : ByteArray := prog_14_method_25_code
def yX12_set : MethodName := ⟨RX12, "set", "(II)I"⟩
abbrev cX12_control : ByteArray := prog_14_method_26_code
def yX12_control : MethodName := ⟨RX12, "control", "(II)I"⟩
abbrev cX12_copyCard : ByteArray := prog_14_method_27_code
def yX12_copyCard : MethodName := ⟨RX12, "copyCard", "(II)V"⟩
abbrev cX12_punch : ByteArray := prog_14_method_28_code
def yX12_punch : MethodName := ⟨RX12, "punch", "(I)I"⟩
abbrev cX12_take : ByteArray := prog_14_method_29_code
def yX12_take : MethodName := ⟨RX12, "take", "(I)I"⟩
abbrev cX12_holdDeck : ByteArray := prog_14_method_30_code
def yX12_holdDeck : MethodName := ⟨RX12, "holdDeck", "()V"⟩
abbrev cX12_fromHeld : ByteArray := prog_14_method_31_code
def yX12_fromHeld : MethodName := ⟨RX12, "fromHeld", "(II)V"⟩
abbrev cX12_move : ByteArray := prog_14_method_32_code
def yX12_move : MethodName := ⟨RX12, "move", "(II)I"⟩
abbrev cX12_repunch : ByteArray := prog_14_method_33_code
def yX12_repunch : MethodName := ⟨RX12, "repunch", "(III)I"⟩
abbrev cX12_mark : ByteArray := prog_14_method_34_code
def yX12_mark : MethodName := ⟨RX12, "mark", "(III)I"⟩
abbrev cX12_beginPasses : ByteArray := prog_14_method_35_code
def yX12_beginPasses : MethodName := ⟨RX12, "beginPasses", "()V"⟩
abbrev cX12_passBy : ByteArray := prog_14_method_36_code
def yX12_passBy : MethodName := ⟨RX12, "passBy", "(I)V"⟩
abbrev cX12_movedCards : ByteArray := prog_14_method_37_code
def yX12_movedCards : MethodName := ⟨RX12, "movedCards", "()I"⟩
abbrev cX12_pass : ByteArray := prog_14_method_38_code
def yX12_pass : MethodName := ⟨RX12, "pass", "(I)I"⟩
abbrev cX12_sort : ByteArray := prog_14_method_39_code
def yX12_sort : MethodName := ⟨RX12, "sort", "(I)I"⟩
abbrev cX12_runCards : ByteArray := prog_14_method_40_code
def yX12_runCards : MethodName := ⟨RX12, "runCards", "()V"⟩
abbrev cX12_accepted : ByteArray := prog_14_method_41_code
def yX12_accepted : MethodName := ⟨RX12, "accepted", "(II)I"⟩
abbrev cX12_wageOf : ByteArray := prog_14_method_42_code
def yX12_wageOf : MethodName := ⟨RX12, "wageOf", "(I)I"⟩
abbrev cX12_printLine : ByteArray := prog_14_method_43_code
def yX12_printLine : MethodName := ⟨RX12, "printLine", "(II)V"⟩
abbrev cX12_fill : ByteArray := prog_14_method_44_code
def yX12_fill : MethodName := ⟨RX12, "fill", "(IIIII)V"⟩
abbrev cX12_overtime : ByteArray := prog_14_method_45_code
def yX12_overtime : MethodName := ⟨RX12, "overtime", "(III)I"⟩
abbrev cX12_breakLevel : ByteArray := prog_14_method_46_code
def yX12_breakLevel : MethodName := ⟨RX12, "breakLevel", "(II)V"⟩
abbrev cX12_breaks : ByteArray := prog_14_method_47_code
def yX12_breaks : MethodName := ⟨RX12, "breaks", "(II)V"⟩
abbrev cX12_printReport : ByteArray := prog_14_method_48_code
def yX12_printReport : MethodName := ⟨RX12, "printReport", "()V"⟩
abbrev cX12_run : ByteArray := prog_14_method_49_code
def yX12_run : MethodName := ⟨RX12, "run", "()I"⟩
abbrev cX12_undo : ByteArray := prog_14_method_50_code
def yX12_undo : MethodName := ⟨RX12, "undo", "()I"⟩
abbrev cX12_write : ByteArray := prog_14_method_51_code
def yX12_write : MethodName := ⟨RX12, "write", "(I)I"⟩
abbrev cX12_wipe : ByteArray := prog_14_method_52_code
def yX12_wipe : MethodName := ⟨RX12, "wipe", "()I"⟩
abbrev cX12_fault : ByteArray := prog_14_method_53_code
def yX12_fault : MethodName := ⟨RX12, "fault", "(I)I"⟩
abbrev cX12_isOrdered : ByteArray := prog_14_method_54_code
def yX12_isOrdered : MethodName := ⟨RX12, "isOrdered", "()Z"⟩
abbrev cX12_refused : ByteArray := prog_14_method_55_code
def yX12_refused : MethodName := ⟨RX12, "refused", "()I"⟩
abbrev cX12_told : ByteArray := prog_14_method_56_code
def yX12_told : MethodName := ⟨RX12, "told", "(I)I"⟩
abbrev cX12_setting : ByteArray := prog_14_method_57_code
def yX12_setting : MethodName := ⟨RX12, "setting", "(I)I"⟩
abbrev cX12_field : ByteArray := prog_14_method_58_code
def yX12_field : MethodName := ⟨RX12, "field", "(II)I"⟩
abbrev cX12_column : ByteArray := prog_14_method_59_code
def yX12_column : MethodName := ⟨RX12, "column", "(II)I"⟩
abbrev cX12_card : ByteArray := prog_14_method_60_code
def yX12_card : MethodName := ⟨RX12, "card", "(II)I"⟩
abbrev cX12_line : ByteArray := prog_14_method_61_code
def yX12_line : MethodName := ⟨RX12, "line", "(II)I"⟩
abbrev cX12_reason : ByteArray := prog_14_method_62_code
def yX12_reason : MethodName := ⟨RX12, "reason", "(I)I"⟩
abbrev cX12_differs : ByteArray := prog_14_method_63_code
def yX12_differs : MethodName := ⟨RX12, "differs", "(I)I"⟩
abbrev cX12_isAlike : ByteArray := prog_14_method_64_code
def yX12_isAlike : MethodName := ⟨RX12, "isAlike", "(II)Z"⟩
abbrev cX12_isLast : ByteArray := prog_14_method_65_code
def yX12_isLast : MethodName := ⟨RX12, "isLast", "(I)Z"⟩
abbrev cX12_ofKey : ByteArray := prog_14_method_66_code
def yX12_ofKey : MethodName := ⟨RX12, "ofKey", "(II)I"⟩
abbrev cX12_inSecondWay : ByteArray := prog_14_method_67_code
def yX12_inSecondWay : MethodName := ⟨RX12, "inSecondWay", "(II)I"⟩
abbrev cX12_again : ByteArray := prog_14_method_68_code
def yX12_again : MethodName := ⟨RX12, "again", "(II)I"⟩
abbrev cX12_ofAll : ByteArray := prog_14_method_69_code
def yX12_ofAll : MethodName := ⟨RX12, "ofAll", "(I)I"⟩
abbrev cX12_agrees : ByteArray := prog_14_method_70_code
def yX12_agrees : MethodName := ⟨RX12, "agrees", "()I"⟩
abbrev cX12_keyOf : ByteArray := prog_14_method_71_code
def yX12_keyOf : MethodName := ⟨RX12, "keyOf", "(I)J"⟩
abbrev cX12_rank : ByteArray := prog_14_method_72_code
def yX12_rank : MethodName := ⟨RX12, "rank", "(I)I"⟩
abbrev cX12_ranked : ByteArray := prog_14_method_73_code
def yX12_ranked : MethodName := ⟨RX12, "ranked", "(II)I"⟩
abbrev cX12_mean : ByteArray := prog_14_method_74_code
def yX12_mean : MethodName := ⟨RX12, "mean", "()F"⟩
abbrev cX12_putAside : ByteArray := prog_14_method_75_code
def yX12_putAside : MethodName := ⟨RX12, "putAside", "()V"⟩
abbrev cX12_putBack : ByteArray := prog_14_method_76_code
def yX12_putBack : MethodName := ⟨RX12, "putBack", "()V"⟩
abbrev cX12_makePasses : ByteArray := prog_14_method_77_code
def yX12_makePasses : MethodName := ⟨RX12, "makePasses", "(I)V"⟩
abbrev cX12_passes : ByteArray := prog_14_method_78_code
def yX12_passes : MethodName := ⟨RX12, "passes", "()I"⟩
abbrev cX12_accepts : ByteArray := prog_14_method_79_code
def yX12_accepts : MethodName := ⟨RX12, "accepts", "(I)I"⟩
abbrev cX12_isImage : ByteArray := prog_14_method_80_code
def yX12_isImage : MethodName := ⟨RX12, "isImage", "(I)Z"⟩
abbrev cX12_keep : ByteArray := prog_14_method_81_code
def yX12_keep : MethodName := ⟨RX12, "keep", "(I)I"⟩
abbrev cX12_back : ByteArray := prog_14_method_82_code
def yX12_back : MethodName := ⟨RX12, "back", "(I)I"⟩
def RJ9 : String := "java/lang/Math"
def TJ9 : u_T := fun k => match k with
  | _ => ("", "", "", false)
def tyJ9 : Nat → FieldType := fun k => match k with
  | _ => .int
abbrev wsJ90 : List Cond := u_ws RJ9 TJ9 0
theorem nmJ9 : ∀ a, a < 0 → ∀ b, b < 0 → a ≠ b → (TJ9 a).2.1 ≠ (TJ9 b).2.1 := by decide +kernel
theorem tyJ9_ok : ∀ k, k < 0 → parseFieldDescriptor (TJ9 k).2.2.1 = some (tyJ9 k) := by decide +kernel
abbrev cJ9_floorMod_7cf53 : ByteArray := prog_15_method_50_code
def yJ9_floorMod_7cf53 : MethodName := ⟨RJ9, "floorMod", "(II)I"⟩
abbrev cJ9_abs_0f7a4 : ByteArray := prog_15_method_59_code
def yJ9_abs_0f7a4 : MethodName := ⟨RJ9, "abs", "(I)I"⟩
abbrev cJ9_min_7cf53 : ByteArray := prog_15_method_69_code
def yJ9_min_7cf53 : MethodName := ⟨RJ9, "min", "(II)I"⟩
def RJ10 : String := "java/lang/System"
def TJ10 : u_T := fun k => match k with
  | _ => ("", "", "", false)
def tyJ10 : Nat → FieldType := fun k => match k with
  | _ => .int
abbrev wsJ100 : List Cond := u_ws RJ10 TJ10 0
theorem nmJ10 : ∀ a, a < 0 → ∀ b, b < 0 → a ≠ b → (TJ10 a).2.1 ≠ (TJ10 b).2.1 := by decide +kernel
theorem tyJ10_ok : ∀ k, k < 0 → parseFieldDescriptor (TJ10 k).2.2.1 = some (tyJ10 k) := by decide +kernel
def RL : String := "CardTabulatorLaw"
abbrev cL_law : ByteArray := code
def yL_law : MethodName := ⟨RL, "law", "([I)Z"⟩
def wsL_law_r1 : List Cond := [Cond.classLink RL 7 RX11, Cond.instantiable RX11 9, Cond.initialized RX11, Cond.classLink RL 10 RX12, Cond.instantiable RX12 20, Cond.initialized RX12, Cond.methodLink RL 9 yX11_init, Cond.instanceMethod yX11_init, Cond.code yX11_init cX11_init 1 none, Cond.methodLink RX11 3 objectInit, Cond.instanceMethod objectInit, Cond.code objectInit ⟨#[0xb1]⟩ 1 none, Cond.classLink RX11 9 RX8, Cond.instantiable RX8 5, Cond.initialized RX8, Cond.fieldLink RX11 12 "CardTabulator" "now" "LCardTabulator$State;", Cond.classLink RX11 16 RX2, Cond.instantiable RX2 3, Cond.initialized RX2, Cond.fieldLink RX11 19 "CardTabulator" "past" "LCardTabulator$History;", Cond.fieldLink RX11 23 "CardTabulator" "images" "[LCardTabulator$State;", Cond.classLink RX11 27 RX9, Cond.instantiable RX9 7, Cond.initialized RX9]
def wsL_law_r2 : List Cond := [Cond.fieldLink RX11 30 "CardTabulator" "text" "LCardTabulator$Text;", Cond.classLink RX11 34 RX7, Cond.instantiable RX7 5, Cond.initialized RX7, Cond.fieldLink RX11 37 "CardTabulator" "sorter" "LCardTabulator$Sorter;", Cond.classLink RX11 41 RX4, Cond.instantiable RX4 4, Cond.initialized RX4, Cond.fieldLink RX11 44 "CardTabulator" "printer" "LCardTabulator$Printer;", Cond.classLink RX11 48 RX6, Cond.instantiable RX6 4, Cond.initialized RX6, Cond.fieldLink RX11 51 "CardTabulator" "secondWay" "LCardTabulator$SecondWay;", Cond.classLink RX11 55 RX0, Cond.instantiable RX0 3, Cond.initialized RX0, Cond.fieldLink RX11 58 "CardTabulator" "read" "LCardTabulator$Card;", Cond.classLink RX11 62 RX10, Cond.instantiable RX10 8, Cond.initialized RX10, Cond.fieldLink RX11 65 "CardTabulator" "slip" "LCardTabulator$Totals;", Cond.instanceMethod yX8_init, Cond.code yX8_init cX8_init 1 none, Cond.methodLink RX8 3 objectInit]
def wsL_law_r3 : List Cond := [Cond.classLink RX8 9 RX3, Cond.instantiable RX3 2, Cond.initialized RX3, Cond.fieldLink RX8 12 "CardTabulator$State" "layout" "LCardTabulator$Layout;", Cond.classLink RX8 18 RX1, Cond.instantiable RX1 3, Cond.initialized RX1, Cond.fieldLink RX8 21 "CardTabulator$State" "deck" "LCardTabulator$Deck;", Cond.classLink RX8 25 RX5, Cond.instantiable RX5 5, Cond.initialized RX5, Cond.fieldLink RX8 28 "CardTabulator$State" "report" "LCardTabulator$Report;", Cond.arrayClass .int, Cond.fieldLink RX8 32 "CardTabulator$State" "settings" "[I", Cond.constant RX8 36 (-1000009), Cond.fieldLink RX8 37 "CardTabulator$State" "controls" "[I", Cond.instanceMethod yX3_init, Cond.code yX3_init cX3_init 1 none, Cond.methodLink RX3 3 objectInit, Cond.fieldLink RX3 9 "CardTabulator$Layout" "firsts" "[I", Cond.fieldLink RX3 15 "CardTabulator$Layout" "widths" "[I", Cond.methodLink RX8 20 yX1_init, Cond.instanceMethod yX1_init, Cond.code yX1_init cX1_init 2 none]
def wsL_law_r4 : List Cond := [Cond.methodLink RX1 3 objectInit, Cond.classLink RX1 9 RX0, Cond.fieldLink RX1 11 "CardTabulator$Deck" "cards" "[LCardTabulator$Card;", Cond.fieldLink RX1 18 "CardTabulator$Deck" "stray" "LCardTabulator$Card;", Cond.methodLink RX1 17 yX0_init, Cond.instanceMethod yX0_init, Cond.code yX0_init cX0_init 1 none, Cond.methodLink RX0 3 objectInit, Cond.fieldLink RX0 9 "CardTabulator$Card" "columns" "[I", Cond.methodLink RX0 15 yX0_clear, Cond.instanceMethod yX0_clear, Cond.selects RX0 yX0_clear yX0_clear, Cond.code yX0_clear cX0_clear 2 none, Cond.constant RX0 18 (-1000009), Cond.fieldLink RX0 19 "CardTabulator$Card" "feeding" "I", Cond.fieldLink RX0 23 "CardTabulator$Card" "tornColumn" "I", Cond.instanceMethod yX5_init, Cond.code yX5_init cX5_init 1 none, Cond.methodLink RX5 3 objectInit, Cond.fieldLink RX5 9 "CardTabulator$Report" "lines" "[I", Cond.fieldLink RX5 15 "CardTabulator$Report" "reasons" "[I", Cond.instanceMethod yX2_init, Cond.code yX2_init cX2_init 1 none, Cond.methodLink RX2 3 objectInit]
def wsL_law_r5 : List Cond := [Cond.classLink RX2 9 RX8, Cond.fieldLink RX2 11 "CardTabulator$History" "states" "[LCardTabulator$State;", Cond.instanceMethod yX9_init, Cond.code yX9_init cX9_init 1 none, Cond.methodLink RX9 3 objectInit, Cond.fieldLink RX9 9 "CardTabulator$Text" "bytes" "[I", Cond.fieldLink RX9 15 "CardTabulator$Text" "digits" "[I", Cond.fieldLink RX9 18 "CardTabulator$Text" "starts" "[I", Cond.constant RX9 21 (-1000009), Cond.fieldLink RX9 22 "CardTabulator$Text" "faultKind" "I", Cond.fieldLink RX9 26 "CardTabulator$Text" "faultPlace" "I", Cond.instanceMethod yX7_init, Cond.code yX7_init cX7_init 1 none, Cond.methodLink RX7 3 objectInit, Cond.fieldLink RX7 9 "CardTabulator$Sorter" "order" "[I", Cond.fieldLink RX7 15 "CardTabulator$Sorter" "sorted" "[I", Cond.fieldLink RX7 18 "CardTabulator$Sorter" "starts" "[I", Cond.classLink RX7 21 RX0, Cond.fieldLink RX7 23 "CardTabulator$Sorter" "cards" "[LCardTabulator$Card;", Cond.instanceMethod yX4_init, Cond.code yX4_init cX4_init 1 none, Cond.methodLink RX4 3 objectInit, Cond.classLink RX4 9 RX10, Cond.fieldLink RX4 12 "CardTabulator$Printer" "worker" "LCardTabulator$Totals;"]
def wsL_law_r6 : List Cond := [Cond.fieldLink RX4 18 "CardTabulator$Printer" "group" "LCardTabulator$Totals;", Cond.fieldLink RX4 21 "CardTabulator$Printer" "department" "LCardTabulator$Totals;", Cond.fieldLink RX4 24 "CardTabulator$Printer" "all" "LCardTabulator$Totals;", Cond.instanceMethod yX10_init, Cond.code yX10_init cX10_init 1 none, Cond.methodLink RX10 3 objectInit, Cond.methodLink RX11 50 yX6_init, Cond.instanceMethod yX6_init, Cond.code yX6_init cX6_init 2 none, Cond.methodLink RX6 3 objectInit, Cond.classLink RX6 9 RX10, Cond.fieldLink RX6 11 "CardTabulator$SecondWay" "keys" "[LCardTabulator$Totals;", Cond.fieldLink RX6 18 "CardTabulator$SecondWay" "stray" "LCardTabulator$Totals;", Cond.fieldLink RX6 22 "CardTabulator$SecondWay" "slip" "LCardTabulator$Totals;", Cond.methodLink RX11 57 yX0_init, Cond.methodLink RL 12 yX12_init, Cond.instanceMethod yX12_init, Cond.code yX12_init cX12_init 2 none, Cond.methodLink RX12 1 objectInit, Cond.fieldLink RX12 7 "CardTabulatorModel" "w" "[I", Cond.fieldLink RX12 13 "CardTabulatorModel" "past" "[I", Cond.fieldLink RX12 16 "CardTabulatorModel" "images" "[I", Cond.fieldLink RX12 19 "CardTabulatorModel" "text" "[I", Cond.constant RX12 22 (-1000009)]
def wsL_law_r7 : List Cond := [Cond.fieldLink RX12 23 "CardTabulatorModel" "faultKind" "I", Cond.fieldLink RX12 27 "CardTabulatorModel" "faultPlace" "I", Cond.fieldLink RX12 30 "CardTabulatorModel" "seen" "[I", Cond.fieldLink RX12 33 "CardTabulatorModel" "told" "[I", Cond.fieldLink RX12 36 "CardTabulatorModel" "digits" "[I", Cond.fieldLink RX12 39 "CardTabulatorModel" "held" "[I", Cond.fieldLink RX12 42 "CardTabulatorModel" "number" "[I", Cond.fieldLink RX12 45 "CardTabulatorModel" "earlier" "[I", Cond.fieldLink RX12 48 "CardTabulatorModel" "numbers" "[I", Cond.fieldLink RX12 51 "CardTabulatorModel" "sums" "[I", Cond.fieldLink RX12 54 "CardTabulatorModel" "aside" "[I", Cond.methodLink RX12 57 yX12_layField, Cond.instanceMethod yX12_layField, Cond.selects RX12 yX12_layField yX12_layField, Cond.code yX12_layField cX12_layField 4 none, Cond.methodLink RL 13 yX11_lay, Cond.instanceMethod yX11_lay, Cond.selects RX11 yX11_lay yX11_lay, Cond.code yX11_lay cX11_lay 5 (some .int), Cond.constant RX11 77 (-1000001), Cond.fieldLink RX11 82 "CardTabulator$State" "layout" "LCardTabulator$Layout;", Cond.methodLink RX11 69 yX11_isField, Cond.static yX11_isField, Cond.code yX11_isField cX11_isField 1 (some .boolean)]
def wsL_law_r8 : List Cond := [Cond.methodLink RX11 73 yX11_fits, Cond.static yX11_fits, Cond.code yX11_fits cX11_fits 4 (some .boolean), Cond.methodLink RX11 103 yX11_isWithin, Cond.static yX11_isWithin, Cond.code yX11_isWithin cX11_isWithin 3 (some .boolean), Cond.methodLink RX11 167 yX11_isColumn, Cond.static yX11_isColumn, Cond.code yX11_isColumn cX11_isColumn 1 (some .boolean), Cond.methodLink RX11 78 yX2_record, Cond.instanceMethod yX2_record, Cond.selects RX2 yX2_record yX2_record, Cond.code yX2_record cX2_record 2 none, Cond.fieldLink RX2 17 "CardTabulator$History" "count" "I", Cond.fieldLink RX2 29 "CardTabulator$History" "oldest" "I", Cond.methodLink RX2 21 yX2_at, Cond.instanceMethod yX2_at, Cond.selects RX2 yX2_at yX2_at, Cond.code yX2_at cX2_at 4 (some (.object "CardTabulator$State")), Cond.methodLink RX2 32 yJ9_floorMod_7cf53, Cond.static yJ9_floorMod_7cf53, Cond.initialized RJ9, Cond.code yJ9_floorMod_7cf53 cJ9_floorMod_7cf53 3 (some .int), Cond.methodLink RX2 25 yX8_copyFrom]
def wsL_law_r9 : List Cond := [Cond.instanceMethod yX8_copyFrom, Cond.selects RX8 yX8_copyFrom yX8_copyFrom, Cond.code yX8_copyFrom cX8_copyFrom 2 none, Cond.methodLink RX8 54 arraycopyName, Cond.native arraycopyName, Cond.static arraycopyName, Cond.initialized "java/lang/System", Cond.methodLink RX8 44 yX3_copyFrom, Cond.instanceMethod yX3_copyFrom, Cond.selects RX3 yX3_copyFrom yX3_copyFrom, Cond.code yX3_copyFrom cX3_copyFrom 2 none, Cond.methodLink RX3 50 arraycopyName, Cond.methodLink RX8 48 yX1_copyFrom, Cond.instanceMethod yX1_copyFrom, Cond.selects RX1 yX1_copyFrom yX1_copyFrom, Cond.code yX1_copyFrom cX1_copyFrom 3 none, Cond.fieldLink RX1 22 "CardTabulator$Deck" "count" "I", Cond.methodLink RX1 26 yX1_at, Cond.instanceMethod yX1_at, Cond.selects RX1 yX1_at yX1_at, Cond.code yX1_at cX1_at 3 (some (.object "CardTabulator$Card")), Cond.methodLink RX1 45 yX0_copyFrom, Cond.instanceMethod yX0_copyFrom, Cond.selects RX0 yX0_copyFrom yX0_copyFrom]
def wsL_law_r10 : List Cond := [Cond.code yX0_copyFrom cX0_copyFrom 2 none, Cond.methodLink RX0 34 arraycopyName, Cond.methodLink RX8 51 yX5_copyFrom, Cond.instanceMethod yX5_copyFrom, Cond.selects RX5 yX5_copyFrom yX5_copyFrom, Cond.code yX5_copyFrom cX5_copyFrom 2 none, Cond.fieldLink RX5 18 "CardTabulator$Report" "lineCount" "I", Cond.fieldLink RX5 28 "CardTabulator$Report" "deckSize" "I", Cond.fieldLink RX5 31 "CardTabulator$Report" "limit" "I", Cond.methodLink RX5 83 arraycopyName, Cond.methodLink RX11 86 yX3_firstOf, Cond.instanceMethod yX3_firstOf, Cond.selects RX3 yX3_firstOf yX3_firstOf, Cond.code yX3_firstOf cX3_firstOf 2 (some .int), Cond.methodLink RX11 92 yX3_place, Cond.instanceMethod yX3_place, Cond.selects RX3 yX3_place yX3_place, Cond.code yX3_place cX3_place 4 none, Cond.methodLink RL 17 yX12_lay, Cond.instanceMethod yX12_lay, Cond.selects RX12 yX12_lay yX12_lay, Cond.code yX12_lay cX12_lay 5 (some .int), Cond.constant RX12 117 (-1000001), Cond.methodLink RX12 113 yX12_isField]
def wsL_law_r11 : List Cond := [Cond.static yX12_isField, Cond.code yX12_isField cX12_isField 1 (some .boolean), Cond.methodLink RX12 64 yX12_isIn, Cond.static yX12_isIn, Cond.code yX12_isIn cX12_isIn 3 (some .boolean), Cond.methodLink RX12 118 yX12_remember, Cond.instanceMethod yX12_remember, Cond.selects RX12 yX12_remember yX12_remember, Cond.code yX12_remember cX12_remember 2 none, Cond.fieldLink RX12 61 "CardTabulatorModel" "pastMany" "I", Cond.methodLink RX12 80 yX12_first, Cond.instanceMethod yX12_first, Cond.selects RX12 yX12_first yX12_first, Cond.code yX12_first cX12_first 2 (some .int), Cond.methodLink RL 18 yX11_set, Cond.instanceMethod yX11_set, Cond.selects RX11 yX11_set yX11_set, Cond.code yX11_set cX11_set 4 (some .int), Cond.fieldLink RX11 99 "CardTabulator" "MOST_OF_SETTING" "[I", Cond.fieldLink RX11 109 "CardTabulator$State" "settings" "[I", Cond.methodLink RX11 96 yX11_isSetting, Cond.static yX11_isSetting, Cond.code yX11_isSetting cX11_isSetting 1 (some .boolean), Cond.methodLink RX11 106 yX8_settingOf]
def wsL_law_r12 : List Cond := [Cond.instanceMethod yX8_settingOf, Cond.selects RX8 yX8_settingOf yX8_settingOf, Cond.code yX8_settingOf cX8_settingOf 2 (some .int), Cond.methodLink RL 22 yX12_set, Cond.instanceMethod yX12_set, Cond.selects RX12 yX12_set yX12_set, Cond.code yX12_set cX12_set 3 (some .int), Cond.methodLink RX12 121 yX12_isOf, Cond.static yX12_isOf, Cond.code yX12_isOf cX12_isOf 2 (some .boolean), Cond.methodLink RX12 125 yX12_put, Cond.instanceMethod yX12_put, Cond.selects RX12 yX12_put yX12_put, Cond.code yX12_put cX12_put 4 (some .int), Cond.methodLink RL 23 yX11_control, Cond.instanceMethod yX11_control, Cond.selects RX11 yX11_control yX11_control, Cond.code yX11_control cX11_control 4 (some .int), Cond.constant RX11 115 (-1000009), Cond.constant RX11 116 (1000000), Cond.fieldLink RX11 117 "CardTabulator$State" "controls" "[I", Cond.methodLink RX11 112 yX11_isControl, Cond.static yX11_isControl, Cond.code yX11_isControl cX11_isControl 1 (some .boolean)]
def wsL_law_r13 : List Cond := [Cond.methodLink RL 26 yX12_control, Cond.instanceMethod yX12_control, Cond.selects RX12 yX12_control yX12_control, Cond.code yX12_control cX12_control 3 (some .int), Cond.constant RX12 128 (1000000), Cond.methodLink RL 27 yX11_punch, Cond.instanceMethod yX11_punch, Cond.selects RX11 yX11_punch yX11_punch, Cond.code yX11_punch cX11_punch 3 (some .int), Cond.fieldLink RX11 120 "CardTabulator$State" "deck" "LCardTabulator$Deck;", Cond.constant RX11 134 (-1000002), Cond.constant RX11 135 (-1000003), Cond.methodLink RX11 124 yX1_size, Cond.instanceMethod yX1_size, Cond.selects RX1 yX1_size yX1_size, Cond.code yX1_size cX1_size 1 (some .int), Cond.methodLink RX11 130 yX9_readsAsCard, Cond.instanceMethod yX9_readsAsCard, Cond.selects RX9 yX9_readsAsCard yX9_readsAsCard, Cond.code yX9_readsAsCard cX9_readsAsCard 4 (some .boolean), Cond.fieldLink RX9 32 "CardTabulator$Text" "word" "I", Cond.fieldLink RX9 29 "CardTabulator$Text" "length" "I", Cond.methodLink RX9 35 yX9_readBetweenWords, Cond.instanceMethod yX9_readBetweenWords]
def wsL_law_r14 : List Cond := [Cond.selects RX9 yX9_readBetweenWords yX9_readBetweenWords, Cond.code yX9_readBetweenWords cX9_readBetweenWords 4 (some .int), Cond.methodLink RX9 54 yX9_at, Cond.instanceMethod yX9_at, Cond.selects RX9 yX9_at yX9_at, Cond.code yX9_at cX9_at 2 (some .int), Cond.methodLink RX9 57 yX9_fieldOf, Cond.static yX9_fieldOf, Cond.code yX9_fieldOf cX9_fieldOf 1 (some .int), Cond.methodLink RX9 60 yX9_digitsOf, Cond.instanceMethod yX9_digitsOf, Cond.selects RX9 yX9_digitsOf yX9_digitsOf, Cond.code yX9_digitsOf cX9_digitsOf 2 (some .int), Cond.methodLink RX9 63 yX9_isTextField, Cond.static yX9_isTextField, Cond.code yX9_isTextField cX9_isTextField 1 (some .boolean), Cond.methodLink RX9 39 yX9_readInWord, Cond.instanceMethod yX9_readInWord, Cond.selects RX9 yX9_readInWord yX9_readInWord, Cond.code yX9_readInWord cX9_readInWord 4 (some .int), Cond.methodLink RX9 71 yX3_widthOf, Cond.instanceMethod yX3_widthOf, Cond.selects RX3 yX3_widthOf yX3_widthOf, Cond.code yX3_widthOf cX3_widthOf 2 (some .int)]
def wsL_law_r15 : List Cond := [Cond.methodLink RX9 76 yX9_countDigit, Cond.instanceMethod yX9_countDigit, Cond.selects RX9 yX9_countDigit yX9_countDigit, Cond.code yX9_countDigit cX9_countDigit 2 (some .int), Cond.methodLink RX9 43 yX9_noteFault, Cond.instanceMethod yX9_noteFault, Cond.selects RX9 yX9_noteFault yX9_noteFault, Cond.code yX9_noteFault cX9_noteFault 3 (some .boolean), Cond.methodLink RX9 47 yX9_hasWord, Cond.instanceMethod yX9_hasWord, Cond.selects RX9 yX9_hasWord yX9_hasWord, Cond.code yX9_hasWord cX9_hasWord 2 (some .boolean), Cond.methodLink RX9 51 yX9_endsBehindLetter, Cond.instanceMethod yX9_endsBehindLetter, Cond.selects RX9 yX9_endsBehindLetter yX9_endsBehindLetter, Cond.code yX9_endsBehindLetter cX9_endsBehindLetter 1 (some .boolean), Cond.methodLink RX11 136 yX1_insertBlank, Cond.instanceMethod yX1_insertBlank, Cond.selects RX1 yX1_insertBlank yX1_insertBlank, Cond.code yX1_insertBlank cX1_insertBlank 3 (some (.object "CardTabulator$Card")), Cond.methodLink RX1 30 yX0_clear, Cond.methodLink RX1 33 yX1_carry, Cond.instanceMethod yX1_carry, Cond.selects RX1 yX1_carry yX1_carry]
def wsL_law_r16 : List Cond := [Cond.code yX1_carry cX1_carry 5 none, Cond.methodLink RX1 41 yX1_put, Cond.instanceMethod yX1_put, Cond.selects RX1 yX1_put yX1_put, Cond.code yX1_put cX1_put 3 none, Cond.methodLink RX11 140 yX9_punchOn, Cond.instanceMethod yX9_punchOn, Cond.selects RX9 yX9_punchOn yX9_punchOn, Cond.code yX9_punchOn cX9_punchOn 4 none, Cond.methodLink RX9 79 yX9_punchNumber, Cond.instanceMethod yX9_punchNumber, Cond.selects RX9 yX9_punchNumber yX9_punchNumber, Cond.code yX9_punchNumber cX9_punchNumber 8 none, Cond.methodLink RX9 83 yX3_firstOf, Cond.methodLink RX9 86 yX0_show, Cond.instanceMethod yX0_show, Cond.selects RX0 yX0_show yX0_show, Cond.code yX0_show cX0_show 3 none, Cond.methodLink RX11 144 yX3_dueOn, Cond.instanceMethod yX3_dueOn, Cond.selects RX3 yX3_dueOn yX3_dueOn, Cond.code yX3_dueOn cX3_dueOn 4 (some .int), Cond.methodLink RX3 35 yX3_weighedDigits, Cond.instanceMethod yX3_weighedDigits]
def wsL_law_r17 : List Cond := [Cond.selects RX3 yX3_weighedDigits yX3_weighedDigits, Cond.code yX3_weighedDigits cX3_weighedDigits 8 (some .int), Cond.constant RX3 34 (-1000009), Cond.methodLink RX3 22 yX3_firstOf, Cond.methodLink RX3 26 yX3_widthOf, Cond.methodLink RX3 29 yX0_shows, Cond.instanceMethod yX0_shows, Cond.selects RX0 yX0_shows yX0_shows, Cond.code yX0_shows cX0_shows 2 (some .int), Cond.methodLink RX11 148 yX0_show, Cond.methodLink RL 31 yX12_punch, Cond.instanceMethod yX12_punch, Cond.selects RX12 yX12_punch yX12_punch, Cond.code yX12_punch cX12_punch 4 (some .int), Cond.fieldLink RX12 97 "CardTabulatorModel" "wrongKind" "I", Cond.fieldLink RX12 100 "CardTabulatorModel" "wrongPlace" "I", Cond.constant RX12 132 (-1000002), Cond.constant RX12 133 (-1000003), Cond.methodLink RX12 129 yX12_readText, Cond.instanceMethod yX12_readText, Cond.selects RX12 yX12_readText yX12_readText, Cond.code yX12_readText cX12_readText 5 none, Cond.fieldLink RX12 107 "CardTabulatorModel" "length" "I", Cond.methodLink RX12 103 yX12_fails]
def wsL_law_r18 : List Cond := [Cond.instanceMethod yX12_fails, Cond.selects RX12 yX12_fails yX12_fails, Cond.code yX12_fails cX12_fails 3 none, Cond.methodLink RX12 110 yX12_fieldOf, Cond.static yX12_fieldOf, Cond.code yX12_fieldOf cX12_fieldOf 1 (some .int), Cond.methodLink RX12 76 yX12_width, Cond.instanceMethod yX12_width, Cond.selects RX12 yX12_width yX12_width, Cond.code yX12_width cX12_width 2 (some .int), Cond.methodLink RX12 134 yX12_copyCard, Cond.instanceMethod yX12_copyCard, Cond.selects RX12 yX12_copyCard yX12_copyCard, Cond.code yX12_copyCard cX12_copyCard 4 none, Cond.methodLink RX12 137 yX12_punchSeen, Cond.instanceMethod yX12_punchSeen, Cond.selects RX12 yX12_punchSeen yX12_punchSeen, Cond.code yX12_punchSeen cX12_punchSeen 4 none, Cond.methodLink RX12 89 yX12_due, Cond.instanceMethod yX12_due, Cond.selects RX12 yX12_due yX12_due, Cond.code yX12_due cX12_due 5 (some .int), Cond.methodLink RL 32 yX11_take, Cond.instanceMethod yX11_take]
def wsL_law_r19 : List Cond := [Cond.selects RX11 yX11_take yX11_take, Cond.code yX11_take cX11_take 2 (some .int), Cond.methodLink RX11 152 yX1_has, Cond.instanceMethod yX1_has, Cond.selects RX1 yX1_has yX1_has, Cond.code yX1_has cX1_has 2 (some .boolean), Cond.methodLink RX11 155 yX1_remove, Cond.instanceMethod yX1_remove, Cond.selects RX1 yX1_remove yX1_remove, Cond.code yX1_remove cX1_remove 2 none, Cond.methodLink RX1 37 yX1_has, Cond.methodLink RL 35 yX12_take, Cond.instanceMethod yX12_take, Cond.selects RX12 yX12_take yX12_take, Cond.code yX12_take cX12_take 3 (some .int), Cond.methodLink RX12 140 yX12_isCard, Cond.instanceMethod yX12_isCard, Cond.selects RX12 yX12_isCard yX12_isCard, Cond.code yX12_isCard cX12_isCard 2 (some .boolean), Cond.methodLink RL 36 yX11_move, Cond.instanceMethod yX11_move, Cond.selects RX11 yX11_move yX11_move, Cond.code yX11_move cX11_move 3 (some .int), Cond.methodLink RX11 162 Lib.Math.abs.name]
def wsL_law_r20 : List Cond := [Cond.static Lib.Math.abs.name, Cond.initialized "java/lang/Math", Cond.code Lib.Math.abs.name Lib.Math.abs.code 1 (some .int), Cond.methodLink RX11 159 yX1_carry, Cond.methodLink RL 39 yX12_move, Cond.instanceMethod yX12_move, Cond.selects RX12 yX12_move yX12_move, Cond.code yX12_move cX12_move 4 (some .int), Cond.methodLink RX12 143 yX12_holdDeck, Cond.instanceMethod yX12_holdDeck, Cond.selects RX12 yX12_holdDeck yX12_holdDeck, Cond.code yX12_holdDeck cX12_holdDeck 2 none, Cond.methodLink RX12 146 yX12_fromHeld, Cond.instanceMethod yX12_fromHeld, Cond.selects RX12 yX12_fromHeld yX12_fromHeld, Cond.code yX12_fromHeld cX12_fromHeld 4 none, Cond.methodLink RL 40 yX11_repunch, Cond.instanceMethod yX11_repunch, Cond.selects RX11 yX11_repunch yX11_repunch, Cond.code yX11_repunch cX11_repunch 6 (some .int), Cond.methodLink RX11 170 yX1_at, Cond.methodLink RX11 173 yX0_shows, Cond.methodLink RL 43 yX12_repunch, Cond.instanceMethod yX12_repunch]
def wsL_law_r21 : List Cond := [Cond.selects RX12 yX12_repunch yX12_repunch, Cond.code yX12_repunch cX12_repunch 5 (some .int), Cond.methodLink RX12 149 yX12_isColumn, Cond.static yX12_isColumn, Cond.code yX12_isColumn cX12_isColumn 1 (some .boolean), Cond.methodLink RL 44 yX11_mark, Cond.instanceMethod yX11_mark, Cond.selects RX11 yX11_mark yX11_mark, Cond.code yX11_mark cX11_mark 6 (some .int), Cond.fieldLink RX11 176 "CardTabulator$Card" "feeding" "I", Cond.fieldLink RX11 180 "CardTabulator$Card" "tornColumn" "I", Cond.methodLink RL 47 yX12_mark, Cond.instanceMethod yX12_mark, Cond.selects RX12 yX12_mark yX12_mark, Cond.code yX12_mark cX12_mark 5 (some .int), Cond.methodLink RL 48 yX11_pass, Cond.instanceMethod yX11_pass, Cond.selects RX11 yX11_pass yX11_pass, Cond.code yX11_pass cX11_pass 2 (some .int), Cond.methodLink RX11 183 yX7_begin, Cond.instanceMethod yX7_begin, Cond.selects RX7 yX7_begin yX7_begin, Cond.code yX7_begin cX7_begin 3 none, Cond.methodLink RX7 33 Lib.Math.min.name]
def wsL_law_r22 : List Cond := [Cond.static Lib.Math.min.name, Cond.code Lib.Math.min.name Lib.Math.min.code 2 (some .int), Cond.fieldLink RX7 39 "CardTabulator$Sorter" "count" "I", Cond.methodLink RX7 27 yX1_size, Cond.methodLink RX11 187 yX7_passBy, Cond.instanceMethod yX7_passBy, Cond.selects RX7 yX7_passBy yX7_passBy, Cond.code yX7_passBy cX7_passBy 6 none, Cond.methodLink RX7 55 arraycopyName, Cond.methodLink RX7 43 yX7_findStarts, Cond.instanceMethod yX7_findStarts, Cond.selects RX7 yX7_findStarts yX7_findStarts, Cond.code yX7_findStarts cX7_findStarts 4 none, Cond.methodLink RX7 47 yX1_at, Cond.methodLink RX7 51 yX7_stackOf, Cond.static yX7_stackOf, Cond.code yX7_stackOf cX7_stackOf 3 (some .int), Cond.methodLink RX7 61 yX0_shows, Cond.methodLink RX11 191 yX7_arrange, Cond.instanceMethod yX7_arrange, Cond.selects RX7 yX7_arrange yX7_arrange, Cond.code yX7_arrange cX7_arrange 4 (some .int), Cond.methodLink RX7 69 yX1_put, Cond.methodLink RL 51 yX12_pass]
def wsL_law_r23 : List Cond := [Cond.instanceMethod yX12_pass, Cond.selects RX12 yX12_pass yX12_pass, Cond.code yX12_pass cX12_pass 2 (some .int), Cond.methodLink RX12 152 yX12_beginPasses, Cond.instanceMethod yX12_beginPasses, Cond.selects RX12 yX12_beginPasses yX12_beginPasses, Cond.code yX12_beginPasses cX12_beginPasses 2 none, Cond.methodLink RX12 155 yX12_passBy, Cond.instanceMethod yX12_passBy, Cond.selects RX12 yX12_passBy yX12_passBy, Cond.code yX12_passBy cX12_passBy 6 none, Cond.methodLink RX12 158 yX12_movedCards, Cond.instanceMethod yX12_movedCards, Cond.selects RX12 yX12_movedCards yX12_movedCards, Cond.code yX12_movedCards cX12_movedCards 3 (some .int), Cond.methodLink RL 52 yX11_sort, Cond.instanceMethod yX11_sort, Cond.selects RX11 yX11_sort yX11_sort, Cond.code yX11_sort cX11_sort 3 (some .int), Cond.methodLink RX11 195 yX3_widthOf, Cond.methodLink RL 55 yX12_sort, Cond.instanceMethod yX12_sort, Cond.selects RX12 yX12_sort yX12_sort, Cond.code yX12_sort cX12_sort 3 (some .int)]
def wsL_law_r24 : List Cond := [Cond.methodLink RL 56 yX11_run, Cond.instanceMethod yX11_run, Cond.selects RX11 yX11_run yX11_run, Cond.code yX11_run cX11_run 2 (some .int), Cond.fieldLink RX11 198 "CardTabulator$State" "report" "LCardTabulator$Report;", Cond.methodLink RX11 202 yX5_begin, Cond.instanceMethod yX5_begin, Cond.selects RX5 yX5_begin yX5_begin, Cond.code yX5_begin cX5_begin 3 none, Cond.methodLink RX5 22 Lib.Math.min.name, Cond.methodLink RX11 206 yX4_begin, Cond.instanceMethod yX4_begin, Cond.selects RX4 yX4_begin yX4_begin, Cond.code yX4_begin cX4_begin 1 none, Cond.methodLink RX4 27 yX10_clear, Cond.instanceMethod yX10_clear, Cond.selects RX10 yX10_clear yX10_clear, Cond.code yX10_clear cX10_clear 1 none, Cond.fieldLink RX10 11 "CardTabulator$Totals" "department" "I", Cond.fieldLink RX10 17 "CardTabulator$Totals" "group" "I", Cond.fieldLink RX10 20 "CardTabulator$Totals" "worker" "I", Cond.fieldLink RX10 27 "CardTabulator$Totals" "rate" "I", Cond.fieldLink RX10 30 "CardTabulator$Totals" "cards" "I", Cond.fieldLink RX10 33 "CardTabulator$Totals" "hours" "I"]
def wsL_law_r25 : List Cond := [Cond.fieldLink RX10 36 "CardTabulator$Totals" "wages" "I", Cond.fieldLink RX10 39 "CardTabulator$Totals" "overtime" "I", Cond.methodLink RX11 208 yX11_feedDeck, Cond.instanceMethod yX11_feedDeck, Cond.selects RX11 yX11_feedDeck yX11_feedDeck, Cond.code yX11_feedDeck cX11_feedDeck 9 (some .int), Cond.constantLong RX11 308 (-1), Cond.methodLink RX11 310 yX11_refusal, Cond.instanceMethod yX11_refusal, Cond.selects RX11 yX11_refusal yX11_refusal, Cond.code yX11_refusal cX11_refusal 6 (some .int), Cond.methodLink RX11 254 yX11_faultOfCard, Cond.instanceMethod yX11_faultOfCard, Cond.selects RX11 yX11_faultOfCard yX11_faultOfCard, Cond.code yX11_faultOfCard cX11_faultOfCard 2 (some .int), Cond.fieldLink RX11 336 "CardTabulator$Totals" "hours" "I", Cond.methodLink RX11 328 yX0_readFrom, Cond.instanceMethod yX0_readFrom, Cond.selects RX0 yX0_readFrom yX0_readFrom, Cond.code yX0_readFrom cX0_readFrom 2 none, Cond.methodLink RX0 30 yX0_copyFrom, Cond.methodLink RX0 40 yX0_show, Cond.methodLink RX11 332 yX10_fillFrom, Cond.instanceMethod yX10_fillFrom]
def wsL_law_r26 : List Cond := [Cond.selects RX10 yX10_fillFrom yX10_fillFrom, Cond.code yX10_fillFrom cX10_fillFrom 3 (some .boolean), Cond.constant RX10 48 (-1000009), Cond.methodLink RX10 42 yX3_valueOn, Cond.instanceMethod yX3_valueOn, Cond.selects RX3 yX3_valueOn yX3_valueOn, Cond.code yX3_valueOn cX3_valueOn 8 (some .int), Cond.methodLink RX11 250 yX3_valueOn, Cond.methodLink RX11 314 yX10_key, Cond.instanceMethod yX10_key, Cond.selects RX10 yX10_key yX10_key, Cond.code yX10_key cX10_key 1 (some .long), Cond.methodLink RX10 23 yX10_keyOf, Cond.static yX10_keyOf, Cond.code yX10_keyOf cX10_keyOf 3 (some .long), Cond.constantLong RX10 9 (10000), Cond.methodLink RX11 318 yX11_printJudged, Cond.instanceMethod yX11_printJudged, Cond.selects RX11 yX11_printJudged yX11_printJudged, Cond.code yX11_printJudged cX11_printJudged 3 none, Cond.methodLink RX11 321 yX5_judge, Cond.instanceMethod yX5_judge, Cond.selects RX5 yX5_judge yX5_judge, Cond.code yX5_judge cX5_judge 3 none]
def wsL_law_r27 : List Cond := [Cond.methodLink RX5 34 yX5_hadCard, Cond.instanceMethod yX5_hadCard, Cond.selects RX5 yX5_hadCard yX5_hadCard, Cond.code yX5_hadCard cX5_hadCard 2 (some .boolean), Cond.methodLink RX11 324 yX4_accept, Cond.instanceMethod yX4_accept, Cond.selects RX4 yX4_accept yX4_accept, Cond.code yX4_accept cX4_accept 4 none, Cond.fieldLink RX4 30 "CardTabulator$Totals" "cards" "I", Cond.methodLink RX4 34 yX10_key, Cond.methodLink RX4 38 yX4_breakBefore, Cond.instanceMethod yX4_breakBefore, Cond.selects RX4 yX4_breakBefore yX4_breakBefore, Cond.code yX4_breakBefore cX4_breakBefore 4 none, Cond.fieldLink RX4 63 "CardTabulator$Totals" "department" "I", Cond.fieldLink RX4 65 "CardTabulator$Totals" "group" "I", Cond.methodLink RX4 52 yX4_breakWorker, Cond.instanceMethod yX4_breakWorker, Cond.selects RX4 yX4_breakWorker yX4_breakWorker, Cond.code yX4_breakWorker cX4_breakWorker 3 none, Cond.fieldLink RX4 67 "CardTabulator$Report" "limit" "I", Cond.constant RX4 62 (-1000009), Cond.methodLink RX4 70 yX10_overtimeBeyond, Cond.instanceMethod yX10_overtimeBeyond]
def wsL_law_r28 : List Cond := [Cond.selects RX10 yX10_overtimeBeyond yX10_overtimeBeyond, Cond.code yX10_overtimeBeyond cX10_overtimeBeyond 2 (some .int), Cond.constantLong RX10 49 (20), Cond.methodLink RX4 74 yX10_addOvertime, Cond.instanceMethod yX10_addOvertime, Cond.selects RX10 yX10_addOvertime yX10_addOvertime, Cond.code yX10_addOvertime cX10_addOvertime 2 none, Cond.methodLink RX4 42 yX5_print, Cond.instanceMethod yX5_print, Cond.selects RX5 yX5_print yX5_print, Cond.code yX5_print cX5_print 5 none, Cond.fieldLink RX5 56 "CardTabulator$Totals" "department" "I", Cond.constant RX5 61 (-1000009), Cond.fieldLink RX5 62 "CardTabulator$Totals" "group" "I", Cond.fieldLink RX5 65 "CardTabulator$Totals" "worker" "I", Cond.fieldLink RX5 68 "CardTabulator$Totals" "cards" "I", Cond.fieldLink RX5 71 "CardTabulator$Totals" "hours" "I", Cond.fieldLink RX5 74 "CardTabulator$Totals" "wages" "I", Cond.fieldLink RX5 77 "CardTabulator$Totals" "overtime" "I", Cond.fieldLink RX5 80 "CardTabulator$Totals" "rate" "I", Cond.methodLink RX4 56 yX4_breakGroup, Cond.instanceMethod yX4_breakGroup, Cond.selects RX4 yX4_breakGroup yX4_breakGroup, Cond.code yX4_breakGroup cX4_breakGroup 2 none]
def wsL_law_r29 : List Cond := [Cond.methodLink RX4 59 yX4_breakDepartment, Cond.instanceMethod yX4_breakDepartment, Cond.selects RX4 yX4_breakDepartment yX4_breakDepartment, Cond.code yX4_breakDepartment cX4_breakDepartment 2 none, Cond.methodLink RX4 48 yX10_addCard, Cond.instanceMethod yX10_addCard, Cond.selects RX10 yX10_addCard yX10_addCard, Cond.code yX10_addCard cX10_addCard 2 none, Cond.methodLink RX11 212 yX4_end, Cond.instanceMethod yX4_end, Cond.selects RX4 yX4_end yX4_end, Cond.code yX4_end cX4_end 2 none, Cond.methodLink RL 60 yX12_run, Cond.instanceMethod yX12_run, Cond.selects RX12 yX12_run yX12_run, Cond.code yX12_run cX12_run 1 (some .int), Cond.methodLink RX12 195 yX12_runCards, Cond.instanceMethod yX12_runCards, Cond.selects RX12 yX12_runCards yX12_runCards, Cond.code yX12_runCards cX12_runCards 10 none, Cond.constantLong RX12 161 (-1), Cond.methodLink RX12 163 yX12_ownReason, Cond.instanceMethod yX12_ownReason, Cond.selects RX12 yX12_ownReason yX12_ownReason]
def wsL_law_r30 : List Cond := [Cond.code yX12_ownReason cX12_ownReason 3 (some .int), Cond.methodLink RX12 68 yX12_of, Cond.instanceMethod yX12_of, Cond.selects RX12 yX12_of yX12_of, Cond.code yX12_of cX12_of 3 (some .int), Cond.methodLink RX12 83 yX12_read, Cond.instanceMethod yX12_read, Cond.selects RX12 yX12_read yX12_read, Cond.code yX12_read cX12_read 3 none, Cond.methodLink RX12 72 yX12_look, Cond.instanceMethod yX12_look, Cond.selects RX12 yX12_look yX12_look, Cond.code yX12_look cX12_look 3 none, Cond.methodLink RX12 86 yX12_valueOf, Cond.instanceMethod yX12_valueOf, Cond.selects RX12 yX12_valueOf yX12_valueOf, Cond.code yX12_valueOf cX12_valueOf 5 (some .int), Cond.methodLink RX12 166 yX12_key, Cond.static yX12_key, Cond.code yX12_key cX12_key 3 (some .long), Cond.constantLong RX12 93 (100000000), Cond.constantLong RX12 95 (10000), Cond.methodLink RX12 198 yX12_printReport, Cond.instanceMethod yX12_printReport]
def wsL_law_r31 : List Cond := [Cond.selects RX12 yX12_printReport yX12_printReport, Cond.code yX12_printReport cX12_printReport 5 none, Cond.methodLink RX12 170 yX12_accepted, Cond.instanceMethod yX12_accepted, Cond.selects RX12 yX12_accepted yX12_accepted, Cond.code yX12_accepted cX12_accepted 3 (some .int), Cond.methodLink RX12 189 yX12_breaks, Cond.instanceMethod yX12_breaks, Cond.selects RX12 yX12_breaks yX12_breaks, Cond.code yX12_breaks cX12_breaks 4 none, Cond.methodLink RX12 186 yX12_breakLevel, Cond.instanceMethod yX12_breakLevel, Cond.selects RX12 yX12_breakLevel yX12_breakLevel, Cond.code yX12_breakLevel cX12_breakLevel 5 none, Cond.methodLink RX12 175 yX12_overtime, Cond.static yX12_overtime, Cond.code yX12_overtime cX12_overtime 3 (some .int), Cond.constantLong RX12 173 (20), Cond.methodLink RX12 179 yX12_printLine, Cond.instanceMethod yX12_printLine, Cond.selects RX12 yX12_printLine yX12_printLine, Cond.code yX12_printLine cX12_printLine 5 none, Cond.methodLink RX12 182 yX12_fill, Cond.instanceMethod yX12_fill]
def wsL_law_r32 : List Cond := [Cond.selects RX12 yX12_fill yX12_fill, Cond.code yX12_fill cX12_fill 7 none, Cond.methodLink RX12 192 yX12_wageOf, Cond.instanceMethod yX12_wageOf, Cond.selects RX12 yX12_wageOf yX12_wageOf, Cond.code yX12_wageOf cX12_wageOf 2 (some .int), Cond.methodLink RL 61 yX11_undo, Cond.instanceMethod yX11_undo, Cond.selects RX11 yX11_undo yX11_undo, Cond.code yX11_undo cX11_undo 1 (some .int), Cond.methodLink RX11 216 yX2_isEmpty, Cond.instanceMethod yX2_isEmpty, Cond.selects RX2 yX2_isEmpty yX2_isEmpty, Cond.code yX2_isEmpty cX2_isEmpty 1 (some .boolean), Cond.methodLink RX11 220 yX2_restoreInto, Cond.instanceMethod yX2_restoreInto, Cond.selects RX2 yX2_restoreInto yX2_restoreInto, Cond.code yX2_restoreInto cX2_restoreInto 2 none, Cond.methodLink RX11 223 yX2_size, Cond.instanceMethod yX2_size, Cond.selects RX2 yX2_size yX2_size, Cond.code yX2_size cX2_size 1 (some .int), Cond.methodLink RL 64 yX12_undo, Cond.instanceMethod yX12_undo]
def wsL_law_r33 : List Cond := [Cond.selects RX12 yX12_undo yX12_undo, Cond.code yX12_undo cX12_undo 2 (some .int), Cond.methodLink RL 65 yX11_write, Cond.instanceMethod yX11_write, Cond.selects RX11 yX11_write yX11_write, Cond.code yX11_write cX11_write 2 (some .int), Cond.methodLink RX11 224 yX9_size, Cond.instanceMethod yX9_size, Cond.selects RX9 yX9_size yX9_size, Cond.code yX9_size cX9_size 1 (some .int), Cond.methodLink RX11 225 yX9_append, Cond.instanceMethod yX9_append, Cond.selects RX9 yX9_append yX9_append, Cond.code yX9_append cX9_append 2 none, Cond.methodLink RL 68 yX12_write, Cond.instanceMethod yX12_write, Cond.selects RX12 yX12_write yX12_write, Cond.code yX12_write cX12_write 2 (some .int), Cond.methodLink RL 69 yX11_wipe, Cond.instanceMethod yX11_wipe, Cond.selects RX11 yX11_wipe yX11_wipe, Cond.code yX11_wipe cX11_wipe 2 (some .int), Cond.methodLink RX11 228 yX9_clear, Cond.instanceMethod yX9_clear]
def wsL_law_r34 : List Cond := [Cond.selects RX9 yX9_clear yX9_clear, Cond.code yX9_clear cX9_clear 1 none, Cond.methodLink RL 72 yX12_wipe, Cond.instanceMethod yX12_wipe, Cond.selects RX12 yX12_wipe yX12_wipe, Cond.code yX12_wipe cX12_wipe 2 (some .int), Cond.methodLink RL 73 yX11_fault, Cond.instanceMethod yX11_fault, Cond.selects RX11 yX11_fault yX11_fault, Cond.code yX11_fault cX11_fault 2 (some .int), Cond.fieldLink RX11 231 "CardTabulator$Text" "faultKind" "I", Cond.fieldLink RX11 234 "CardTabulator$Text" "faultPlace" "I", Cond.methodLink RL 76 yX12_fault, Cond.instanceMethod yX12_fault, Cond.selects RX12 yX12_fault yX12_fault, Cond.code yX12_fault cX12_fault 2 (some .int), Cond.methodLink RL 77 yX11_told, Cond.instanceMethod yX11_told, Cond.selects RX11 yX11_told yX11_told, Cond.code yX11_told cX11_told 2 (some .int), Cond.fieldLink RX11 237 "CardTabulator$Report" "lineCount" "I", Cond.methodLink RX11 240 yX5_isEmpty, Cond.instanceMethod yX5_isEmpty, Cond.selects RX5 yX5_isEmpty yX5_isEmpty]
def wsL_law_r35 : List Cond := [Cond.code yX5_isEmpty cX5_isEmpty 1 (some .boolean), Cond.methodLink RX11 241 yX5_lastLine, Cond.instanceMethod yX5_lastLine, Cond.selects RX5 yX5_lastLine yX5_lastLine, Cond.code yX5_lastLine cX5_lastLine 2 (some .int), Cond.methodLink RX5 50 yX5_number, Cond.instanceMethod yX5_number, Cond.selects RX5 yX5_number yX5_number, Cond.code yX5_number cX5_number 3 (some .int), Cond.methodLink RX5 47 yX5_has, Cond.instanceMethod yX5_has, Cond.selects RX5 yX5_has yX5_has, Cond.code yX5_has cX5_has 2 (some .boolean), Cond.methodLink RX11 244 yX5_refusedCards, Cond.instanceMethod yX5_refusedCards, Cond.selects RX5 yX5_refusedCards yX5_refusedCards, Cond.code yX5_refusedCards cX5_refusedCards 3 (some .int), Cond.methodLink RX5 39 yX5_reasonOf, Cond.instanceMethod yX5_reasonOf, Cond.selects RX5 yX5_reasonOf yX5_reasonOf, Cond.code yX5_reasonOf cX5_reasonOf 2 (some .int), Cond.constant RX5 38 (-1000001), Cond.methodLink RX11 247 yX11_isDeckInOrder, Cond.instanceMethod yX11_isDeckInOrder]
def wsL_law_r36 : List Cond := [Cond.selects RX11 yX11_isDeckInOrder yX11_isDeckInOrder, Cond.code yX11_isDeckInOrder cX11_isDeckInOrder 1 (some .boolean), Cond.methodLink RX11 301 yX7_isInKeyOrder, Cond.instanceMethod yX7_isInKeyOrder, Cond.selects RX7 yX7_isInKeyOrder yX7_isInKeyOrder, Cond.code yX7_isInKeyOrder cX7_isInKeyOrder 8 (some .boolean), Cond.constantLong RX7 73 (-1), Cond.methodLink RX7 75 yX3_keyOn, Cond.instanceMethod yX3_keyOn, Cond.selects RX3 yX3_keyOn yX3_keyOn, Cond.code yX3_keyOn cX3_keyOn 5 (some .long), Cond.constantLong RX3 42 (-1), Cond.methodLink RX3 39 yX3_valueOn, Cond.methodLink RX3 44 yX10_keyOf, Cond.methodLink RL 80 yX12_told, Cond.instanceMethod yX12_told, Cond.selects RX12 yX12_told yX12_told, Cond.code yX12_told cX12_told 2 (some .int), Cond.methodLink RX12 201 yX12_refused, Cond.instanceMethod yX12_refused, Cond.selects RX12 yX12_refused yX12_refused, Cond.code yX12_refused cX12_refused 3 (some .int), Cond.methodLink RX12 204 yX12_isOrdered, Cond.instanceMethod yX12_isOrdered]
def wsL_law_r37 : List Cond := [Cond.selects RX12 yX12_isOrdered yX12_isOrdered, Cond.code yX12_isOrdered cX12_isOrdered 6 (some .boolean), Cond.methodLink RL 81 yX11_setting, Cond.instanceMethod yX11_setting, Cond.selects RX11 yX11_setting yX11_setting, Cond.code yX11_setting cX11_setting 2 (some .int), Cond.methodLink RL 84 yX12_setting, Cond.instanceMethod yX12_setting, Cond.selects RX12 yX12_setting yX12_setting, Cond.code yX12_setting cX12_setting 2 (some .int), Cond.methodLink RL 85 yX11_field, Cond.instanceMethod yX11_field, Cond.selects RX11 yX11_field yX11_field, Cond.code yX11_field cX11_field 3 (some .int), Cond.methodLink RL 88 yX12_field, Cond.instanceMethod yX12_field, Cond.selects RX12 yX12_field yX12_field, Cond.code yX12_field cX12_field 3 (some .int), Cond.methodLink RL 89 yX11_column, Cond.instanceMethod yX11_column, Cond.selects RX11 yX11_column yX11_column, Cond.code yX11_column cX11_column 3 (some .int), Cond.methodLink RL 92 yX12_column, Cond.instanceMethod yX12_column]
def wsL_law_r38 : List Cond := [Cond.selects RX12 yX12_column yX12_column, Cond.code yX12_column cX12_column 3 (some .int), Cond.methodLink RL 93 yX11_card, Cond.instanceMethod yX11_card, Cond.selects RX11 yX11_card yX11_card, Cond.code yX11_card cX11_card 4 (some .int), Cond.methodLink RL 96 yX12_card, Cond.instanceMethod yX12_card, Cond.selects RX12 yX12_card yX12_card, Cond.code yX12_card cX12_card 3 (some .int), Cond.methodLink RL 97 yX11_line, Cond.instanceMethod yX11_line, Cond.selects RX11 yX11_line yX11_line, Cond.code yX11_line cX11_line 3 (some .int), Cond.methodLink RX11 257 yX5_has, Cond.methodLink RX11 258 yX5_number, Cond.methodLink RL 100 yX12_line, Cond.instanceMethod yX12_line, Cond.selects RX12 yX12_line yX12_line, Cond.code yX12_line cX12_line 3 (some .int), Cond.methodLink RL 101 yX11_reason, Cond.instanceMethod yX11_reason, Cond.selects RX11 yX11_reason yX11_reason, Cond.code yX11_reason cX11_reason 2 (some .int)]
def wsL_law_r39 : List Cond := [Cond.methodLink RX11 262 yX5_hadCard, Cond.methodLink RX11 265 yX5_reasonOf, Cond.methodLink RL 104 yX12_reason, Cond.instanceMethod yX12_reason, Cond.selects RX12 yX12_reason yX12_reason, Cond.code yX12_reason cX12_reason 2 (some .int), Cond.methodLink RL 105 yX11_differs, Cond.instanceMethod yX11_differs, Cond.selects RX11 yX11_differs yX11_differs, Cond.code yX11_differs cX11_differs 2 (some .int), Cond.methodLink RX11 268 yX11_acceptedTotal, Cond.instanceMethod yX11_acceptedTotal, Cond.selects RX11 yX11_acceptedTotal yX11_acceptedTotal, Cond.code yX11_acceptedTotal cX11_acceptedTotal 2 (some .int), Cond.methodLink RX11 339 yX5_sumOfWorkers, Cond.instanceMethod yX5_sumOfWorkers, Cond.selects RX5 yX5_sumOfWorkers yX5_sumOfWorkers, Cond.code yX5_sumOfWorkers cX5_sumOfWorkers 3 (some .int), Cond.methodLink RX5 53 yX5_isCard, Cond.instanceMethod yX5_isCard, Cond.selects RX5 yX5_isCard yX5_isCard, Cond.code yX5_isCard cX5_isCard 2 (some .boolean), Cond.methodLink RL 108 yX12_differs, Cond.instanceMethod yX12_differs]
def wsL_law_r40 : List Cond := [Cond.selects RX12 yX12_differs yX12_differs, Cond.code yX12_differs cX12_differs 4 (some .int), Cond.methodLink RL 109 yX11_again, Cond.instanceMethod yX11_again, Cond.selects RX11 yX11_again yX11_again, Cond.code yX11_again cX11_again 3 (some .int), Cond.methodLink RX11 271 yX6_reckon, Cond.instanceMethod yX6_reckon, Cond.selects RX6 yX6_reckon yX6_reckon, Cond.code yX6_reckon cX6_reckon 3 none, Cond.fieldLink RX6 25 "CardTabulator$SecondWay" "count" "I", Cond.fieldLink RX6 29 "CardTabulator$Report" "lineCount" "I", Cond.fieldLink RX6 58 "CardTabulator$Report" "limit" "I", Cond.methodLink RX6 34 yX5_isCard, Cond.methodLink RX6 38 yX5_readCard, Cond.instanceMethod yX5_readCard, Cond.selects RX5 yX5_readCard yX5_readCard, Cond.code yX5_readCard cX5_readCard 3 none, Cond.methodLink RX6 42 yX10_key, Cond.methodLink RX6 46 yX6_ofKey, Cond.instanceMethod yX6_ofKey, Cond.selects RX6 yX6_ofKey yX6_ofKey, Cond.code yX6_ofKey cX6_ofKey 4 (some (.object "CardTabulator$Totals")), Cond.methodLink RX6 54 yX6_at]
def wsL_law_r41 : List Cond := [Cond.instanceMethod yX6_at, Cond.selects RX6 yX6_at yX6_at, Cond.code yX6_at cX6_at 3 (some (.object "CardTabulator$Totals")), Cond.methodLink RX6 69 yX10_clear, Cond.methodLink RX6 50 yX10_addCard, Cond.methodLink RX6 61 yX10_overtimeBeyond, Cond.methodLink RX6 65 yX10_addOvertime, Cond.methodLink RX11 274 yX6_sum, Cond.instanceMethod yX6_sum, Cond.selects RX6 yX6_sum yX6_sum, Cond.code yX6_sum cX6_sum 5 (some .int), Cond.fieldLink RX6 72 "CardTabulator$Totals" "department" "I", Cond.methodLink RX6 75 yX6_numberOf, Cond.static yX6_numberOf, Cond.code yX6_numberOf cX6_numberOf 2 (some .int), Cond.fieldLink RX6 79 "CardTabulator$Totals" "cards" "I", Cond.fieldLink RX6 82 "CardTabulator$Totals" "hours" "I", Cond.fieldLink RX6 85 "CardTabulator$Totals" "wages" "I", Cond.fieldLink RX6 88 "CardTabulator$Totals" "overtime" "I", Cond.methodLink RL 112 yX12_again, Cond.instanceMethod yX12_again, Cond.selects RX12 yX12_again yX12_again, Cond.code yX12_again cX12_again 3 (some .int), Cond.methodLink RX12 217 yX12_inSecondWay]
def wsL_law_r42 : List Cond := [Cond.instanceMethod yX12_inSecondWay, Cond.selects RX12 yX12_inSecondWay yX12_inSecondWay, Cond.code yX12_inSecondWay cX12_inSecondWay 5 (some .int), Cond.methodLink RX12 211 yX12_isLast, Cond.instanceMethod yX12_isLast, Cond.selects RX12 yX12_isLast yX12_isLast, Cond.code yX12_isLast cX12_isLast 3 (some .boolean), Cond.methodLink RX12 208 yX12_isAlike, Cond.instanceMethod yX12_isAlike, Cond.selects RX12 yX12_isAlike yX12_isAlike, Cond.code yX12_isAlike cX12_isAlike 3 (some .boolean), Cond.methodLink RX12 214 yX12_ofKey, Cond.instanceMethod yX12_ofKey, Cond.selects RX12 yX12_ofKey yX12_ofKey, Cond.code yX12_ofKey cX12_ofKey 7 (some .int), Cond.methodLink RL 113 yX11_agrees, Cond.instanceMethod yX11_agrees, Cond.selects RX11 yX11_agrees yX11_agrees, Cond.code yX11_agrees cX11_agrees 2 (some .int), Cond.methodLink RL 116 yX12_agrees, Cond.instanceMethod yX12_agrees, Cond.selects RX12 yX12_agrees yX12_agrees, Cond.code yX12_agrees cX12_agrees 3 (some .int), Cond.methodLink RX12 220 yX12_ofAll]
def wsL_law_r43 : List Cond := [Cond.instanceMethod yX12_ofAll, Cond.selects RX12 yX12_ofAll yX12_ofAll, Cond.code yX12_ofAll cX12_ofAll 2 (some .int), Cond.methodLink RL 117 yX11_ranked, Cond.instanceMethod yX11_ranked, Cond.selects RX11 yX11_ranked yX11_ranked, Cond.code yX11_ranked cX11_ranked 4 (some .int), Cond.fieldLink RX11 284 "CardTabulator$Totals" "department" "I", Cond.fieldLink RX11 287 "CardTabulator$Totals" "group" "I", Cond.fieldLink RX11 290 "CardTabulator$Totals" "worker" "I", Cond.fieldLink RX11 293 "CardTabulator$Totals" "wages" "I", Cond.methodLink RX11 277 yX6_size, Cond.instanceMethod yX6_size, Cond.selects RX6 yX6_size yX6_size, Cond.code yX6_size cX6_size 1 (some .int), Cond.methodLink RX11 278 yX6_rank, Cond.instanceMethod yX6_rank, Cond.selects RX6 yX6_rank yX6_rank, Cond.code yX6_rank cX6_rank 4 none, Cond.methodLink RX6 91 yX6_isAhead, Cond.static yX6_isAhead, Cond.code yX6_isAhead cX6_isAhead 2 (some .boolean), Cond.methodLink RX6 95 yX6_put, Cond.instanceMethod yX6_put]
def wsL_law_r44 : List Cond := [Cond.selects RX6 yX6_put yX6_put, Cond.code yX6_put cX6_put 3 none, Cond.methodLink RX11 281 yX6_at, Cond.methodLink RL 120 yX12_ranked, Cond.instanceMethod yX12_ranked, Cond.selects RX12 yX12_ranked yX12_ranked, Cond.code yX12_ranked cX12_ranked 4 (some .int), Cond.methodLink RX12 227 yX12_rank, Cond.instanceMethod yX12_rank, Cond.selects RX12 yX12_rank yX12_rank, Cond.code yX12_rank cX12_rank 5 (some .int), Cond.methodLink RX12 223 yX12_keyOf, Cond.instanceMethod yX12_keyOf, Cond.selects RX12 yX12_keyOf yX12_keyOf, Cond.code yX12_keyOf cX12_keyOf 2 (some .long), Cond.methodLink RL 121 yX11_mean, Cond.instanceMethod yX11_mean, Cond.selects RX11 yX11_mean yX11_mean, Cond.code yX11_mean cX11_mean 2 (some .float), Cond.constantLong RX11 296 (10), Cond.methodLink RL 125 yX12_mean, Cond.instanceMethod yX12_mean, Cond.selects RX12 yX12_mean yX12_mean, Cond.code yX12_mean cX12_mean 1 (some .float)]
def wsL_law_r45 : List Cond := [Cond.constantLong RX12 230 (10), Cond.methodLink RL 126 yX11_passes, Cond.instanceMethod yX11_passes, Cond.selects RX11 yX11_passes yX11_passes, Cond.code yX11_passes cX11_passes 3 (some .int), Cond.methodLink RX11 298 yX11_passByKeyColumns, Cond.instanceMethod yX11_passByKeyColumns, Cond.selects RX11 yX11_passByKeyColumns yX11_passByKeyColumns, Cond.code yX11_passByKeyColumns cX11_passByKeyColumns 5 none, Cond.methodLink RL 129 yX12_passes, Cond.instanceMethod yX12_passes, Cond.selects RX12 yX12_passes yX12_passes, Cond.code yX12_passes cX12_passes 4 (some .int), Cond.methodLink RX12 232 yX12_putAside, Cond.instanceMethod yX12_putAside, Cond.selects RX12 yX12_putAside yX12_putAside, Cond.code yX12_putAside cX12_putAside 2 none, Cond.methodLink RX12 235 yX12_makePasses, Cond.instanceMethod yX12_makePasses, Cond.selects RX12 yX12_makePasses yX12_makePasses, Cond.code yX12_makePasses cX12_makePasses 6 none, Cond.methodLink RX12 238 yX12_putBack, Cond.instanceMethod yX12_putBack, Cond.selects RX12 yX12_putBack yX12_putBack]
def wsL_law_r46 : List Cond := [Cond.code yX12_putBack cX12_putBack 2 none, Cond.methodLink RL 130 yX11_accepts, Cond.instanceMethod yX11_accepts, Cond.selects RX11 yX11_accepts yX11_accepts, Cond.code yX11_accepts cX11_accepts 2 (some .int), Cond.methodLink RL 133 yX12_accepts, Cond.instanceMethod yX12_accepts, Cond.selects RX12 yX12_accepts yX12_accepts, Cond.code yX12_accepts cX12_accepts 3 (some .int), Cond.methodLink RL 134 yX11_keep, Cond.instanceMethod yX11_keep, Cond.selects RX11 yX11_keep yX11_keep, Cond.code yX11_keep cX11_keep 3 (some .int), Cond.methodLink RX11 305 yX8_copyFrom, Cond.methodLink RL 137 yX12_keep, Cond.instanceMethod yX12_keep, Cond.selects RX12 yX12_keep yX12_keep, Cond.code yX12_keep cX12_keep 3 (some .int), Cond.fieldLink RX12 244 "CardTabulatorModel" "filled" "I", Cond.methodLink RX12 241 yX12_isImage, Cond.static yX12_isImage, Cond.code yX12_isImage cX12_isImage 1 (some .boolean), Cond.methodLink RL 138 yX11_back, Cond.instanceMethod yX11_back]
def wsL_law_r47 : List Cond := [Cond.selects RX11 yX11_back yX11_back, Cond.code yX11_back cX11_back 3 (some .int), Cond.methodLink RL 141 yX12_back, Cond.instanceMethod yX12_back, Cond.selects RX12 yX12_back yX12_back, Cond.code yX12_back cX12_back 3 (some .int)]
def wsL_law : List Cond := (wsL_law_r1 ++ (wsL_law_r2 ++ (wsL_law_r3 ++ (wsL_law_r4 ++ (wsL_law_r5 ++ (wsL_law_r6 ++ (wsL_law_r7 ++ (wsL_law_r8 ++ (wsL_law_r9 ++ (wsL_law_r10 ++ (wsL_law_r11 ++ (wsL_law_r12 ++ (wsL_law_r13 ++ (wsL_law_r14 ++ (wsL_law_r15 ++ (wsL_law_r16 ++ (wsL_law_r17 ++ (wsL_law_r18 ++ (wsL_law_r19 ++ (wsL_law_r20 ++ (wsL_law_r21 ++ (wsL_law_r22 ++ (wsL_law_r23 ++ (wsL_law_r24 ++ (wsL_law_r25 ++ (wsL_law_r26 ++ (wsL_law_r27 ++ (wsL_law_r28 ++ (wsL_law_r29 ++ (wsL_law_r30 ++ (wsL_law_r31 ++ (wsL_law_r32 ++ (wsL_law_r33 ++ (wsL_law_r34 ++ (wsL_law_r35 ++ (wsL_law_r36 ++ (wsL_law_r37 ++ (wsL_law_r38 ++ (wsL_law_r39 ++ (wsL_law_r40 ++ (wsL_law_r41 ++ (wsL_law_r42 ++ (wsL_law_r43 ++ (wsL_law_r44 ++ (wsL_law_r45 ++ (wsL_law_r46 ++ wsL_law_r47)))))))))))))))))))))))))))))))))))))))))))))) ++ wsX110 ++ wsX120 ++ wsX80 ++ wsX20 ++ wsX90 ++ wsX70 ++ wsX40 ++ wsX60 ++ wsX00 ++ wsX100 ++ wsX30 ++ wsX10 ++ wsX50 ++ ([] : List Cond)
theorem inlX0 : ∀ w ∈ wsX00, w ∈ wsL_law := fun _ h => List.mem_append_left _ (List.mem_append_left _ (List.mem_append_left _ (List.mem_append_left _ (List.mem_append_left _ (List.mem_append_right _ h)))))
theorem inlX1 : ∀ w ∈ wsX10, w ∈ wsL_law := fun _ h => List.mem_append_left _ (List.mem_append_left _ (List.mem_append_right _ h))
theorem inlX2 : ∀ w ∈ wsX20, w ∈ wsL_law := fun _ h => List.mem_append_left _ (List.mem_append_left _ (List.mem_append_left _ (List.mem_append_left _ (List.mem_append_left _ (List.mem_append_left _ (List.mem_append_left _ (List.mem_append_left _ (List.mem_append_left _ (List.mem_append_left _ (List.mem_append_right _ h))))))))))
theorem inlX3 : ∀ w ∈ wsX30, w ∈ wsL_law := fun _ h => List.mem_append_left _ (List.mem_append_left _ (List.mem_append_left _ (List.mem_append_right _ h)))
theorem inlX4 : ∀ w ∈ wsX40, w ∈ wsL_law := fun _ h => List.mem_append_left _ (List.mem_append_left _ (List.mem_append_left _ (List.mem_append_left _ (List.mem_append_left _ (List.mem_append_left _ (List.mem_append_left _ (List.mem_append_right _ h)))))))
theorem inlX5 : ∀ w ∈ wsX50, w ∈ wsL_law := fun _ h => List.mem_append_left _ (List.mem_append_right _ h)
theorem inlX6 : ∀ w ∈ wsX60, w ∈ wsL_law := fun _ h => List.mem_append_left _ (List.mem_append_left _ (List.mem_append_left _ (List.mem_append_left _ (List.mem_append_left _ (List.mem_append_left _ (List.mem_append_right _ h))))))
theorem inlX7 : ∀ w ∈ wsX70, w ∈ wsL_law := fun _ h => List.mem_append_left _ (List.mem_append_left _ (List.mem_append_left _ (List.mem_append_left _ (List.mem_append_left _ (List.mem_append_left _ (List.mem_append_left _ (List.mem_append_left _ (List.mem_append_right _ h))))))))
theorem inlX8 : ∀ w ∈ wsX80, w ∈ wsL_law := fun _ h => List.mem_append_left _ (List.mem_append_left _ (List.mem_append_left _ (List.mem_append_left _ (List.mem_append_left _ (List.mem_append_left _ (List.mem_append_left _ (List.mem_append_left _ (List.mem_append_left _ (List.mem_append_left _ (List.mem_append_left _ (List.mem_append_right _ h)))))))))))
theorem inlX9 : ∀ w ∈ wsX90, w ∈ wsL_law := fun _ h => List.mem_append_left _ (List.mem_append_left _ (List.mem_append_left _ (List.mem_append_left _ (List.mem_append_left _ (List.mem_append_left _ (List.mem_append_left _ (List.mem_append_left _ (List.mem_append_left _ (List.mem_append_right _ h)))))))))
theorem inlX10 : ∀ w ∈ wsX100, w ∈ wsL_law := fun _ h => List.mem_append_left _ (List.mem_append_left _ (List.mem_append_left _ (List.mem_append_left _ (List.mem_append_right _ h))))
theorem inlX11 : ∀ w ∈ wsX110, w ∈ wsL_law := fun _ h => List.mem_append_left _ (List.mem_append_left _ (List.mem_append_left _ (List.mem_append_left _ (List.mem_append_left _ (List.mem_append_left _ (List.mem_append_left _ (List.mem_append_left _ (List.mem_append_left _ (List.mem_append_left _ (List.mem_append_left _ (List.mem_append_left _ (List.mem_append_left _ (List.mem_append_right _ h)))))))))))))
theorem inlX12 : ∀ w ∈ wsX120, w ∈ wsL_law := fun _ h => List.mem_append_left _ (List.mem_append_left _ (List.mem_append_left _ (List.mem_append_left _ (List.mem_append_left _ (List.mem_append_left _ (List.mem_append_left _ (List.mem_append_left _ (List.mem_append_left _ (List.mem_append_left _ (List.mem_append_left _ (List.mem_append_left _ (List.mem_append_right _ h))))))))))))
abbrev vwCl : List vw_C := [(RX0, TX0, 3), (RX1, TX1, 3), (RX2, TX2, 3), (RX3, TX3, 2), (RX4, TX4, 4), (RX5, TX5, 5), (RX6, TX6, 4), (RX7, TX7, 5), (RX8, TX8, 5), (RX9, TX9, 7), (RX10, TX10, 8), (RX11, TX11, 9), (RX12, TX12, 20)]
end
section
def am_cn : Nat → String := fun c => match c with
  | 0 => RX0
  | 1 => RX1
  | 2 => RX2
  | 3 => RX3
  | 4 => RX4
  | 5 => RX5
  | 6 => RX6
  | 7 => RX7
  | 8 => RX8
  | 9 => RX9
  | 10 => RX10
  | 11 => RX11
  | 12 => RX12
  | 13 => RJ9
  | _ => RL
def am_tys : Nat → Nat → FieldType := fun c => match c with
  | 0 => tyX0
  | 1 => tyX1
  | 2 => tyX2
  | 3 => tyX3
  | 4 => tyX4
  | 5 => tyX5
  | 6 => tyX6
  | 7 => tyX7
  | 8 => tyX8
  | 9 => tyX9
  | 10 => tyX10
  | 11 => tyX11
  | _ => tyX12
def am_fldL : Nat → List (Nat × Nat × Nat) := fun c => match c with
  | 0 => [(9, 0, 0), (19, 0, 1), (23, 0, 2)]
  | 1 => [(11, 1, 0), (18, 1, 1), (22, 1, 2)]
  | 2 => [(11, 2, 0), (17, 2, 2), (29, 2, 1)]
  | 3 => [(9, 3, 0), (15, 3, 1)]
  | 4 => [(12, 4, 0), (18, 4, 1), (21, 4, 2), (24, 4, 3), (30, 10, 4), (63, 10, 0), (65, 10, 1), (67, 5, 4)]
  | 5 => [(9, 5, 0), (15, 5, 1), (18, 5, 2), (28, 5, 3), (31, 5, 4), (56, 10, 0), (62, 10, 1), (65, 10, 2), (68, 10, 4), (71, 10, 5), (74, 10, 6), (77, 10, 7), (80, 10, 3)]
  | 6 => [(11, 6, 0), (18, 6, 1), (22, 6, 2), (25, 6, 3), (29, 5, 2), (58, 5, 4), (72, 10, 0), (79, 10, 4), (82, 10, 5), (85, 10, 6), (88, 10, 7)]
  | 7 => [(9, 7, 0), (15, 7, 1), (18, 7, 2), (23, 7, 3), (39, 7, 4)]
  | 8 => [(12, 8, 0), (21, 8, 1), (28, 8, 2), (32, 8, 3), (37, 8, 4)]
  | 9 => [(9, 9, 0), (15, 9, 1), (18, 9, 2), (22, 9, 5), (26, 9, 6), (32, 9, 4), (29, 9, 3)]
  | 10 => [(11, 10, 0), (17, 10, 1), (20, 10, 2), (27, 10, 3), (30, 10, 4), (33, 10, 5), (36, 10, 6), (39, 10, 7)]
  | 11 => [(12, 11, 0), (19, 11, 1), (23, 11, 2), (30, 11, 3), (37, 11, 4), (44, 11, 5), (51, 11, 6), (58, 11, 7), (65, 11, 8), (82, 8, 0), (109, 8, 3), (117, 8, 4), (120, 8, 1), (176, 0, 1), (180, 0, 2), (198, 8, 2), (336, 10, 5), (231, 9, 5), (234, 9, 6), (237, 5, 2), (284, 10, 0), (287, 10, 1), (290, 10, 2), (293, 10, 6)]
  | 12 => [(7, 12, 0), (13, 12, 1), (16, 12, 3), (19, 12, 5), (23, 12, 7), (27, 12, 8), (30, 12, 9), (33, 12, 10), (36, 12, 11), (39, 12, 14), (42, 12, 15), (45, 12, 16), (48, 12, 17), (51, 12, 18), (54, 12, 19), (61, 12, 2), (97, 12, 12), (100, 12, 13), (107, 12, 6), (244, 12, 4)]
  | _ => []
def am_conL : Nat → List (Nat × Int32) := fun c => match c with
  | 0 => [(18, -1000009)]
  | 3 => [(34, -1000009)]
  | 4 => [(62, -1000009)]
  | 5 => [(61, -1000009), (38, -1000001)]
  | 8 => [(36, -1000009)]
  | 9 => [(21, -1000009)]
  | 10 => [(48, -1000009)]
  | 11 => [(77, -1000001), (115, -1000009), (116, 1000000), (134, -1000002), (135, -1000003)]
  | 12 => [(22, -1000009), (117, -1000001), (128, 1000000), (132, -1000002), (133, -1000003)]
  | _ => []
def am_lngL : Nat → List (Nat × Int64) := fun c => match c with
  | 3 => [(42, -1)]
  | 7 => [(73, -1)]
  | 10 => [(9, 10000), (49, 20)]
  | 11 => [(308, -1), (296, 10)]
  | 12 => [(161, -1), (93, 100000000), (95, 10000), (173, 20), (230, 10)]
  | _ => []
def am_newL : Nat → List (Nat × Nat) := fun c => match c with
  | 1 => [(9, 0)]
  | 2 => [(9, 8)]
  | 4 => [(9, 10)]
  | 6 => [(9, 10)]
  | 7 => [(21, 0)]
  | 8 => [(9, 3), (18, 1), (25, 5)]
  | 11 => [(9, 8), (16, 2), (27, 9), (34, 7), (41, 4), (48, 6), (55, 0), (62, 10)]
  | 14 => [(7, 11), (10, 12)]
  | _ => []
abbrev am_I : Type := Nat × ByteArray × MethodName × Nat × Option FieldType × Nat × Nat
abbrev mX0_init : am_I := (0, cX0_init, yX0_init, 1, none, 2, 21)
abbrev mX0_clear : am_I := (0, cX0_clear, yX0_clear, 2, none, 1, 0)
abbrev mX0_shows : am_I := (0, cX0_shows, yX0_shows, 2, (some .int), 2, 20)
abbrev mX0_show : am_I := (0, cX0_show, yX0_show, 3, none, 2, 20)
abbrev mX0_readFrom : am_I := (0, cX0_readFrom, yX0_readFrom, 2, none, 3, 61)
abbrev mX0_copyFrom : am_I := (0, cX0_copyFrom, yX0_copyFrom, 2, none, 1, 40)
abbrev mX1_init : am_I := (1, cX1_init, yX1_init, 2, none, 3, 41)
abbrev mX1_size : am_I := (1, cX1_size, yX1_size, 1, (some .int), 1, 0)
abbrev mX1_has : am_I := (1, cX1_has, yX1_has, 2, (some .boolean), 1, 0)
abbrev mX1_at : am_I := (1, cX1_at, yX1_at, 3, (some (.object "CardTabulator$Card")), 1, 0)
abbrev mX1_put : am_I := (1, cX1_put, yX1_put, 3, none, 1, 0)
abbrev mX1_insertBlank : am_I := (1, cX1_insertBlank, yX1_insertBlank, 3, (some (.object "CardTabulator$Card")), 3, 46)
abbrev mX1_remove : am_I := (1, cX1_remove, yX1_remove, 2, none, 3, 46)
abbrev mX1_carry : am_I := (1, cX1_carry, yX1_carry, 5, none, 2, 22)
abbrev mX1_copyFrom : am_I := (1, cX1_copyFrom, yX1_copyFrom, 3, none, 2, 61)
abbrev mX2_init : am_I := (2, cX2_init, yX2_init, 1, none, 1, 20)
abbrev mX2_size : am_I := (2, cX2_size, yX2_size, 1, (some .int), 1, 0)
abbrev mX2_isEmpty : am_I := (2, cX2_isEmpty, yX2_isEmpty, 1, (some .boolean), 1, 0)
abbrev mX2_record : am_I := (2, cX2_record, yX2_record, 2, none, 6, 105)
abbrev mX2_restoreInto : am_I := (2, cX2_restoreInto, yX2_restoreInto, 2, none, 6, 105)
abbrev mX2_at : am_I := (2, cX2_at, yX2_at, 4, (some (.object "CardTabulator$State")), 5, 82)
abbrev mX3_init : am_I := (3, cX3_init, yX3_init, 1, none, 1, 20)
abbrev mX3_firstOf : am_I := (3, cX3_firstOf, yX3_firstOf, 2, (some .int), 2, 20)
abbrev mX3_widthOf : am_I := (3, cX3_widthOf, yX3_widthOf, 2, (some .int), 2, 20)
abbrev mX3_place : am_I := (3, cX3_place, yX3_place, 4, none, 2, 20)
abbrev mX3_valueOn : am_I := (3, cX3_valueOn, yX3_valueOn, 8, (some .int), 3, 41)
abbrev mX3_dueOn : am_I := (3, cX3_dueOn, yX3_dueOn, 4, (some .int), 4, 68)
abbrev mX3_weighedDigits : am_I := (3, cX3_weighedDigits, yX3_weighedDigits, 8, (some .int), 3, 41)
abbrev mX3_keyOn : am_I := (3, cX3_keyOn, yX3_keyOn, 5, (some .long), 4, 68)
abbrev mX3_copyFrom : am_I := (3, cX3_copyFrom, yX3_copyFrom, 2, none, 1, 40)
abbrev mX4_init : am_I := (4, cX4_init, yX4_init, 1, none, 2, 40)
abbrev mX4_begin : am_I := (4, cX4_begin, yX4_begin, 1, none, 2, 20)
abbrev mX4_accept : am_I := (4, cX4_accept, yX4_accept, 4, none, 4, 69)
abbrev mX4_end : am_I := (4, cX4_end, yX4_end, 2, none, 3, 46)
abbrev mX4_breakBefore : am_I := (4, cX4_breakBefore, yX4_breakBefore, 4, none, 3, 46)
abbrev mX4_breakWorker : am_I := (4, cX4_breakWorker, yX4_breakWorker, 3, none, 2, 24)
abbrev mX4_breakGroup : am_I := (4, cX4_breakGroup, yX4_breakGroup, 2, none, 2, 24)
abbrev mX4_breakDepartment : am_I := (4, cX4_breakDepartment, yX4_breakDepartment, 2, none, 2, 24)
abbrev mX5_init : am_I := (5, cX5_init, yX5_init, 1, none, 1, 20)
abbrev mX5_begin : am_I := (5, cX5_begin, yX5_begin, 3, none, 1, 21)
abbrev mX5_isEmpty : am_I := (5, cX5_isEmpty, yX5_isEmpty, 1, (some .boolean), 1, 0)
abbrev mX5_has : am_I := (5, cX5_has, yX5_has, 2, (some .boolean), 1, 0)
abbrev mX5_hadCard : am_I := (5, cX5_hadCard, yX5_hadCard, 2, (some .boolean), 1, 0)
abbrev mX5_reasonOf : am_I := (5, cX5_reasonOf, yX5_reasonOf, 2, (some .int), 2, 21)
abbrev mX5_judge : am_I := (5, cX5_judge, yX5_judge, 3, none, 2, 21)
abbrev mX5_refusedCards : am_I := (5, cX5_refusedCards, yX5_refusedCards, 3, (some .int), 3, 42)
abbrev mX5_number : am_I := (5, cX5_number, yX5_number, 3, (some .int), 2, 22)
abbrev mX5_lastLine : am_I := (5, cX5_lastLine, yX5_lastLine, 2, (some .int), 3, 44)
abbrev mX5_sumOfWorkers : am_I := (5, cX5_sumOfWorkers, yX5_sumOfWorkers, 3, (some .int), 4, 65)
abbrev mX5_isCard : am_I := (5, cX5_isCard, yX5_isCard, 2, (some .boolean), 3, 44)
abbrev mX5_print : am_I := (5, cX5_print, yX5_print, 5, none, 1, 0)
abbrev mX5_readCard : am_I := (5, cX5_readCard, yX5_readCard, 3, none, 3, 44)
abbrev mX5_copyFrom : am_I := (5, cX5_copyFrom, yX5_copyFrom, 2, none, 1, 40)
abbrev mX6_init : am_I := (6, cX6_init, yX6_init, 2, none, 2, 40)
abbrev mX6_size : am_I := (6, cX6_size, yX6_size, 1, (some .int), 1, 0)
abbrev mX6_at : am_I := (6, cX6_at, yX6_at, 3, (some (.object "CardTabulator$Totals")), 1, 0)
abbrev mX6_reckon : am_I := (6, cX6_reckon, yX6_reckon, 3, none, 4, 66)
abbrev mX6_ofKey : am_I := (6, cX6_ofKey, yX6_ofKey, 4, (some (.object "CardTabulator$Totals")), 3, 42)
abbrev mX6_sum : am_I := (6, cX6_sum, yX6_sum, 5, (some .int), 2, 22)
abbrev mX6_numberOf : am_I := (6, cX6_numberOf, yX6_numberOf, 2, (some .int), 1, 0)
abbrev mX6_rank : am_I := (6, cX6_rank, yX6_rank, 4, none, 4, 63)
abbrev mX6_put : am_I := (6, cX6_put, yX6_put, 3, none, 1, 0)
abbrev mX6_isAhead : am_I := (6, cX6_isAhead, yX6_isAhead, 2, (some .boolean), 3, 42)
abbrev mX7_init : am_I := (7, cX7_init, yX7_init, 1, none, 1, 20)
abbrev mX7_begin : am_I := (7, cX7_begin, yX7_begin, 3, none, 2, 21)
abbrev mX7_passBy : am_I := (7, cX7_passBy, yX7_passBy, 6, none, 5, 86)
abbrev mX7_findStarts : am_I := (7, cX7_findStarts, yX7_findStarts, 4, none, 4, 63)
abbrev mX7_stackOf : am_I := (7, cX7_stackOf, yX7_stackOf, 3, (some .int), 3, 41)
abbrev mX7_arrange : am_I := (7, cX7_arrange, yX7_arrange, 4, (some .int), 2, 22)
abbrev mX7_isInKeyOrder : am_I := (7, cX7_isInKeyOrder, yX7_isInKeyOrder, 8, (some .boolean), 5, 92)
abbrev mX8_init : am_I := (8, cX8_init, yX8_init, 1, none, 4, 62)
abbrev mX8_settingOf : am_I := (8, cX8_settingOf, yX8_settingOf, 2, (some .int), 2, 20)
abbrev mX8_copyFrom : am_I := (8, cX8_copyFrom, yX8_copyFrom, 2, none, 3, 83)
abbrev mX9_init : am_I := (9, cX9_init, yX9_init, 1, none, 1, 20)
abbrev mX9_size : am_I := (9, cX9_size, yX9_size, 1, (some .int), 1, 0)
abbrev mX9_clear : am_I := (9, cX9_clear, yX9_clear, 1, none, 1, 0)
abbrev mX9_append : am_I := (9, cX9_append, yX9_append, 2, none, 1, 0)
abbrev mX9_at : am_I := (9, cX9_at, yX9_at, 2, (some .int), 1, 0)
abbrev mX9_readsAsCard : am_I := (9, cX9_readsAsCard, yX9_readsAsCard, 4, (some .boolean), 5, 85)
abbrev mX9_noteFault : am_I := (9, cX9_noteFault, yX9_noteFault, 3, (some .boolean), 1, 0)
abbrev mX9_readBetweenWords : am_I := (9, cX9_readBetweenWords, yX9_readBetweenWords, 4, (some .int), 3, 41)
abbrev mX9_readInWord : am_I := (9, cX9_readInWord, yX9_readInWord, 4, (some .int), 4, 62)
abbrev mX9_countDigit : am_I := (9, cX9_countDigit, yX9_countDigit, 2, (some .int), 3, 41)
abbrev mX9_hasWord : am_I := (9, cX9_hasWord, yX9_hasWord, 2, (some .boolean), 1, 0)
abbrev mX9_endsBehindLetter : am_I := (9, cX9_endsBehindLetter, yX9_endsBehindLetter, 1, (some .boolean), 3, 41)
abbrev mX9_digitsOf : am_I := (9, cX9_digitsOf, yX9_digitsOf, 2, (some .int), 2, 20)
abbrev mX9_isTextField : am_I := (9, cX9_isTextField, yX9_isTextField, 1, (some .boolean), 1, 0)
abbrev mX9_fieldOf : am_I := (9, cX9_fieldOf, yX9_fieldOf, 1, (some .int), 1, 0)
abbrev mX9_punchOn : am_I := (9, cX9_punchOn, yX9_punchOn, 4, none, 4, 69)
abbrev mX9_punchNumber : am_I := (9, cX9_punchNumber, yX9_punchNumber, 8, none, 3, 42)
abbrev mX10_init : am_I := (10, cX10_init, yX10_init, 1, none, 1, 20)
abbrev mX10_keyOf : am_I := (10, cX10_keyOf, yX10_keyOf, 3, (some .long), 1, 0)
abbrev mX10_key : am_I := (10, cX10_key, yX10_key, 1, (some .long), 2, 22)
abbrev mX10_clear : am_I := (10, cX10_clear, yX10_clear, 1, none, 1, 0)
abbrev mX10_fillFrom : am_I := (10, cX10_fillFrom, yX10_fillFrom, 3, (some .boolean), 4, 68)
abbrev mX10_addCard : am_I := (10, cX10_addCard, yX10_addCard, 2, none, 1, 0)
abbrev mX10_overtimeBeyond : am_I := (10, cX10_overtimeBeyond, yX10_overtimeBeyond, 2, (some .int), 1, 0)
abbrev mX10_addOvertime : am_I := (10, cX10_addOvertime, yX10_addOvertime, 2, none, 1, 0)
abbrev mX11_init : am_I := (11, cX11_init, yX11_init, 1, none, 5, 82)
abbrev mX11_lay : am_I := (11, cX11_lay, yX11_lay, 5, (some .int), 7, 126)
abbrev mX11_set : am_I := (11, cX11_set, yX11_set, 4, (some .int), 7, 126)
abbrev mX11_control : am_I := (11, cX11_control, yX11_control, 4, (some .int), 7, 126)
abbrev mX11_punch : am_I := (11, cX11_punch, yX11_punch, 3, (some .int), 7, 126)
abbrev mX11_take : am_I := (11, cX11_take, yX11_take, 2, (some .int), 7, 126)
abbrev mX11_move : am_I := (11, cX11_move, yX11_move, 3, (some .int), 7, 126)
abbrev mX11_repunch : am_I := (11, cX11_repunch, yX11_repunch, 6, (some .int), 7, 126)
abbrev mX11_mark : am_I := (11, cX11_mark, yX11_mark, 6, (some .int), 7, 126)
abbrev mX11_pass : am_I := (11, cX11_pass, yX11_pass, 2, (some .int), 7, 126)
abbrev mX11_sort : am_I := (11, cX11_sort, yX11_sort, 3, (some .int), 7, 126)
abbrev mX11_run : am_I := (11, cX11_run, yX11_run, 2, (some .int), 8, 165)
abbrev mX11_undo : am_I := (11, cX11_undo, yX11_undo, 1, (some .int), 7, 126)
abbrev mX11_write : am_I := (11, cX11_write, yX11_write, 2, (some .int), 2, 22)
abbrev mX11_wipe : am_I := (11, cX11_wipe, yX11_wipe, 2, (some .int), 2, 20)
abbrev mX11_fault : am_I := (11, cX11_fault, yX11_fault, 2, (some .int), 1, 0)
abbrev mX11_told : am_I := (11, cX11_told, yX11_told, 2, (some .int), 7, 139)
abbrev mX11_setting : am_I := (11, cX11_setting, yX11_setting, 2, (some .int), 3, 41)
abbrev mX11_field : am_I := (11, cX11_field, yX11_field, 3, (some .int), 3, 41)
abbrev mX11_column : am_I := (11, cX11_column, yX11_column, 3, (some .int), 3, 41)
abbrev mX11_card : am_I := (11, cX11_card, yX11_card, 4, (some .int), 6, 112)
abbrev mX11_line : am_I := (11, cX11_line, yX11_line, 3, (some .int), 3, 44)
abbrev mX11_reason : am_I := (11, cX11_reason, yX11_reason, 2, (some .int), 3, 42)
abbrev mX11_differs : am_I := (11, cX11_differs, yX11_differs, 2, (some .int), 6, 108)
abbrev mX11_again : am_I := (11, cX11_again, yX11_again, 3, (some .int), 5, 88)
abbrev mX11_agrees : am_I := (11, cX11_agrees, yX11_agrees, 2, (some .int), 5, 88)
abbrev mX11_ranked : am_I := (11, cX11_ranked, yX11_ranked, 4, (some .int), 5, 88)
abbrev mX11_mean : am_I := (11, cX11_mean, yX11_mean, 2, (some .float), 4, 65)
abbrev mX11_passes : am_I := (11, cX11_passes, yX11_passes, 3, (some .int), 7, 135)
abbrev mX11_accepts : am_I := (11, cX11_accepts, yX11_accepts, 2, (some .int), 8, 165)
abbrev mX11_keep : am_I := (11, cX11_keep, yX11_keep, 3, (some .int), 5, 104)
abbrev mX11_back : am_I := (11, cX11_back, yX11_back, 3, (some .int), 7, 126)
abbrev mX11_feedDeck : am_I := (11, cX11_feedDeck, yX11_feedDeck, 9, (some .int), 7, 137)
abbrev mX11_printJudged : am_I := (11, cX11_printJudged, yX11_printJudged, 3, none, 5, 92)
abbrev mX11_refusal : am_I := (11, cX11_refusal, yX11_refusal, 6, (some .int), 6, 112)
abbrev mX11_faultOfCard : am_I := (11, cX11_faultOfCard, yX11_faultOfCard, 2, (some .int), 5, 91)
abbrev mX11_acceptedTotal : am_I := (11, cX11_acceptedTotal, yX11_acceptedTotal, 2, (some .int), 5, 87)
abbrev mX11_isDeckInOrder : am_I := (11, cX11_isDeckInOrder, yX11_isDeckInOrder, 1, (some .boolean), 6, 119)
abbrev mX11_passByKeyColumns : am_I := (11, cX11_passByKeyColumns, yX11_passByKeyColumns, 5, none, 6, 111)
abbrev mX11_isWithin : am_I := (11, cX11_isWithin, yX11_isWithin, 3, (some .boolean), 1, 0)
abbrev mX11_isField : am_I := (11, cX11_isField, yX11_isField, 1, (some .boolean), 1, 0)
abbrev mX11_isColumn : am_I := (11, cX11_isColumn, yX11_isColumn, 1, (some .boolean), 1, 0)
abbrev mX11_isSetting : am_I := (11, cX11_isSetting, yX11_isSetting, 1, (some .boolean), 1, 0)
abbrev mX11_isControl : am_I := (11, cX11_isControl, yX11_isControl, 1, (some .boolean), 1, 0)
abbrev mX11_fits : am_I := (11, cX11_fits, yX11_fits, 4, (some .boolean), 2, 22)
abbrev mX12_init : am_I := (12, cX12_init, yX12_init, 2, none, 2, 23)
abbrev mX12_isIn : am_I := (12, cX12_isIn, yX12_isIn, 3, (some .boolean), 1, 0)
abbrev mX12_layField : am_I := (12, cX12_layField, yX12_layField, 4, none, 1, 0)
abbrev mX12_remember : am_I := (12, cX12_remember, yX12_remember, 2, none, 1, 0)
abbrev mX12_isCard : am_I := (12, cX12_isCard, yX12_isCard, 2, (some .boolean), 2, 22)
abbrev mX12_isField : am_I := (12, cX12_isField, yX12_isField, 1, (some .boolean), 2, 22)
abbrev mX12_isColumn : am_I := (12, cX12_isColumn, yX12_isColumn, 1, (some .boolean), 2, 22)
abbrev mX12_of : am_I := (12, cX12_of, yX12_of, 3, (some .int), 1, 0)
abbrev mX12_first : am_I := (12, cX12_first, yX12_first, 2, (some .int), 1, 0)
abbrev mX12_width : am_I := (12, cX12_width, yX12_width, 2, (some .int), 1, 0)
abbrev mX12_look : am_I := (12, cX12_look, yX12_look, 3, none, 2, 22)
abbrev mX12_read : am_I := (12, cX12_read, yX12_read, 3, none, 3, 44)
abbrev mX12_valueOf : am_I := (12, cX12_valueOf, yX12_valueOf, 5, (some .int), 2, 21)
abbrev mX12_due : am_I := (12, cX12_due, yX12_due, 5, (some .int), 2, 21)
abbrev mX12_ownReason : am_I := (12, cX12_ownReason, yX12_ownReason, 3, (some .int), 4, 66)
abbrev mX12_key : am_I := (12, cX12_key, yX12_key, 3, (some .long), 1, 0)
abbrev mX12_fails : am_I := (12, cX12_fails, yX12_fails, 3, none, 1, 0)
abbrev mX12_fieldOf : am_I := (12, cX12_fieldOf, yX12_fieldOf, 1, (some .int), 1, 0)
abbrev mX12_readText : am_I := (12, cX12_readText, yX12_readText, 5, none, 2, 22)
abbrev mX12_punchSeen : am_I := (12, cX12_punchSeen, yX12_punchSeen, 4, none, 3, 45)
abbrev mX12_lay : am_I := (12, cX12_lay, yX12_lay, 5, (some .int), 3, 42)
abbrev mX12_isOf : am_I := (12, cX12_isOf, yX12_isOf, 2, (some .boolean), 2, 22)
abbrev mX12_put : am_I := (12, cX12_put, yX12_put, 4, (some .int), 2, 21)
abbrev mX12_set : am_I := (12, cX12_set, yX12_set, 3, (some .int), 3, 44)
abbrev mX12_control : am_I := (12, cX12_control, yX12_control, 3, (some .int), 3, 44)
abbrev mX12_copyCard : am_I := (12, cX12_copyCard, yX12_copyCard, 4, none, 1, 0)
abbrev mX12_punch : am_I := (12, cX12_punch, yX12_punch, 4, (some .int), 4, 68)
abbrev mX12_take : am_I := (12, cX12_take, yX12_take, 3, (some .int), 3, 43)
abbrev mX12_holdDeck : am_I := (12, cX12_holdDeck, yX12_holdDeck, 2, none, 1, 0)
abbrev mX12_fromHeld : am_I := (12, cX12_fromHeld, yX12_fromHeld, 4, none, 1, 0)
abbrev mX12_move : am_I := (12, cX12_move, yX12_move, 4, (some .int), 3, 43)
abbrev mX12_repunch : am_I := (12, cX12_repunch, yX12_repunch, 5, (some .int), 3, 44)
abbrev mX12_mark : am_I := (12, cX12_mark, yX12_mark, 5, (some .int), 3, 44)
abbrev mX12_beginPasses : am_I := (12, cX12_beginPasses, yX12_beginPasses, 2, none, 1, 0)
abbrev mX12_passBy : am_I := (12, cX12_passBy, yX12_passBy, 6, none, 2, 23)
abbrev mX12_movedCards : am_I := (12, cX12_movedCards, yX12_movedCards, 3, (some .int), 1, 0)
abbrev mX12_pass : am_I := (12, cX12_pass, yX12_pass, 2, (some .int), 3, 48)
abbrev mX12_sort : am_I := (12, cX12_sort, yX12_sort, 3, (some .int), 3, 48)
abbrev mX12_runCards : am_I := (12, cX12_runCards, yX12_runCards, 10, none, 5, 88)
abbrev mX12_accepted : am_I := (12, cX12_accepted, yX12_accepted, 3, (some .int), 1, 0)
abbrev mX12_wageOf : am_I := (12, cX12_wageOf, yX12_wageOf, 2, (some .int), 2, 22)
abbrev mX12_printLine : am_I := (12, cX12_printLine, yX12_printLine, 5, none, 2, 22)
abbrev mX12_fill : am_I := (12, cX12_fill, yX12_fill, 7, none, 1, 0)
abbrev mX12_overtime : am_I := (12, cX12_overtime, yX12_overtime, 3, (some .int), 1, 0)
abbrev mX12_breakLevel : am_I := (12, cX12_breakLevel, yX12_breakLevel, 5, none, 3, 46)
abbrev mX12_breaks : am_I := (12, cX12_breaks, yX12_breaks, 4, none, 4, 70)
abbrev mX12_printReport : am_I := (12, cX12_printReport, yX12_printReport, 5, none, 5, 93)
abbrev mX12_run : am_I := (12, cX12_run, yX12_run, 1, (some .int), 6, 117)
abbrev mX12_undo : am_I := (12, cX12_undo, yX12_undo, 2, (some .int), 1, 0)
abbrev mX12_write : am_I := (12, cX12_write, yX12_write, 2, (some .int), 2, 22)
abbrev mX12_wipe : am_I := (12, cX12_wipe, yX12_wipe, 2, (some .int), 1, 0)
abbrev mX12_fault : am_I := (12, cX12_fault, yX12_fault, 2, (some .int), 1, 0)
abbrev mX12_isOrdered : am_I := (12, cX12_isOrdered, yX12_isOrdered, 6, (some .boolean), 3, 45)
abbrev mX12_refused : am_I := (12, cX12_refused, yX12_refused, 3, (some .int), 2, 22)
abbrev mX12_told : am_I := (12, cX12_told, yX12_told, 2, (some .int), 4, 70)
abbrev mX12_setting : am_I := (12, cX12_setting, yX12_setting, 2, (some .int), 2, 22)
abbrev mX12_field : am_I := (12, cX12_field, yX12_field, 3, (some .int), 3, 42)
abbrev mX12_column : am_I := (12, cX12_column, yX12_column, 3, (some .int), 3, 43)
abbrev mX12_card : am_I := (12, cX12_card, yX12_card, 3, (some .int), 5, 88)
abbrev mX12_line : am_I := (12, cX12_line, yX12_line, 3, (some .int), 2, 22)
abbrev mX12_reason : am_I := (12, cX12_reason, yX12_reason, 2, (some .int), 2, 22)
abbrev mX12_differs : am_I := (12, cX12_differs, yX12_differs, 4, (some .int), 2, 22)
abbrev mX12_isAlike : am_I := (12, cX12_isAlike, yX12_isAlike, 3, (some .boolean), 2, 22)
abbrev mX12_isLast : am_I := (12, cX12_isLast, yX12_isLast, 3, (some .boolean), 3, 44)
abbrev mX12_ofKey : am_I := (12, cX12_ofKey, yX12_ofKey, 7, (some .int), 3, 44)
abbrev mX12_inSecondWay : am_I := (12, cX12_inSecondWay, yX12_inSecondWay, 5, (some .int), 4, 70)
abbrev mX12_again : am_I := (12, cX12_again, yX12_again, 3, (some .int), 5, 94)
abbrev mX12_ofAll : am_I := (12, cX12_ofAll, yX12_ofAll, 2, (some .int), 1, 0)
abbrev mX12_agrees : am_I := (12, cX12_agrees, yX12_agrees, 3, (some .int), 5, 94)
abbrev mX12_keyOf : am_I := (12, cX12_keyOf, yX12_keyOf, 2, (some .long), 2, 22)
abbrev mX12_rank : am_I := (12, cX12_rank, yX12_rank, 5, (some .int), 4, 70)
abbrev mX12_ranked : am_I := (12, cX12_ranked, yX12_ranked, 4, (some .int), 5, 94)
abbrev mX12_mean : am_I := (12, cX12_mean, yX12_mean, 1, (some .float), 2, 21)
abbrev mX12_putAside : am_I := (12, cX12_putAside, yX12_putAside, 2, none, 1, 0)
abbrev mX12_putBack : am_I := (12, cX12_putBack, yX12_putBack, 2, none, 1, 0)
abbrev mX12_makePasses : am_I := (12, cX12_makePasses, yX12_makePasses, 6, none, 3, 48)
abbrev mX12_passes : am_I := (12, cX12_passes, yX12_passes, 4, (some .int), 4, 73)
abbrev mX12_accepts : am_I := (12, cX12_accepts, yX12_accepts, 3, (some .int), 6, 117)
abbrev mX12_isImage : am_I := (12, cX12_isImage, yX12_isImage, 1, (some .boolean), 2, 22)
abbrev mX12_keep : am_I := (12, cX12_keep, yX12_keep, 3, (some .int), 3, 42)
abbrev mX12_back : am_I := (12, cX12_back, yX12_back, 3, (some .int), 3, 42)
abbrev mJ9_floorMod_7cf53 : am_I := (13, cJ9_floorMod_7cf53, yJ9_floorMod_7cf53, 3, (some .int), 1, 0)
abbrev mL_law : am_I := (14, cL_law, yL_law, 8, some .boolean, 10, 372)
def am_callL : Nat → List (Nat × Nat × Nat × am_I) := fun c => match c with
  | 0 => [(15, 0, 0, mX0_clear), (26, 4, 1, mX11_isColumn), (30, 0, 1, mX0_copyFrom), (40, 0, 2, mX0_show)]
  | 1 => [(17, 2, 0, mX0_init), (26, 0, 1, mX1_at), (30, 0, 0, mX0_clear), (33, 0, 2, mX1_carry), (37, 0, 1, mX1_has), (41, 0, 2, mX1_put), (45, 0, 1, mX0_copyFrom)]
  | 2 => [(21, 0, 1, mX2_at), (25, 0, 1, mX8_copyFrom), (32, 1, 2, mJ9_floorMod_7cf53), (38, 5, 0, mX8_init)]
  | 3 => [(18, 4, 1, mX11_isField), (22, 0, 1, mX3_firstOf), (26, 0, 1, mX3_widthOf), (29, 0, 1, mX0_shows), (35, 0, 2, mX3_weighedDigits), (39, 0, 2, mX3_valueOn), (44, 1, 3, mX10_keyOf)]
  | 4 => [(11, 5, 0, mX10_init), (27, 0, 0, mX10_clear), (34, 0, 0, mX10_key), (38, 0, 2, mX4_breakBefore), (42, 0, 3, mX5_print), (48, 0, 1, mX10_addCard), (52, 0, 1, mX4_breakWorker), (56, 0, 1, mX4_breakGroup), (59, 0, 1, mX4_breakDepartment), (70, 0, 1, mX10_overtimeBeyond), (74, 0, 1, mX10_addOvertime)]
  | 5 => [(34, 0, 1, mX5_hadCard), (39, 0, 1, mX5_reasonOf), (43, 4, 3, mX11_isWithin), (47, 0, 1, mX5_has), (50, 0, 2, mX5_number), (53, 0, 1, mX5_isCard)]
  | 6 => [(17, 5, 0, mX10_init), (34, 0, 1, mX5_isCard), (38, 0, 2, mX5_readCard), (42, 0, 0, mX10_key), (46, 0, 1, mX6_ofKey), (50, 0, 1, mX10_addCard), (54, 0, 1, mX6_at), (61, 0, 1, mX10_overtimeBeyond), (65, 0, 1, mX10_addOvertime), (69, 0, 0, mX10_clear), (75, 1, 2, mX6_numberOf), (91, 1, 2, mX6_isAhead), (95, 0, 2, mX6_put)]
  | 7 => [(27, 0, 0, mX1_size), (43, 0, 2, mX7_findStarts), (47, 0, 1, mX1_at), (51, 1, 2, mX7_stackOf), (61, 0, 1, mX0_shows), (65, 4, 3, mX11_isWithin), (69, 0, 2, mX1_put), (75, 0, 1, mX3_keyOn)]
  | 8 => [(11, 5, 0, mX3_init), (20, 2, 0, mX1_init), (27, 5, 0, mX5_init), (40, 4, 1, mX11_isSetting), (44, 0, 1, mX3_copyFrom), (48, 0, 1, mX1_copyFrom), (51, 0, 1, mX5_copyFrom)]
  | 9 => [(35, 0, 1, mX9_readBetweenWords), (39, 0, 2, mX9_readInWord), (43, 0, 2, mX9_noteFault), (47, 0, 0, mX9_hasWord), (51, 0, 0, mX9_endsBehindLetter), (54, 0, 1, mX9_at), (57, 1, 1, mX9_fieldOf), (60, 0, 1, mX9_digitsOf), (63, 1, 1, mX9_isTextField), (67, 4, 3, mX11_isWithin), (71, 0, 1, mX3_widthOf), (76, 0, 1, mX9_countDigit), (79, 0, 3, mX9_punchNumber), (83, 0, 1, mX3_firstOf), (86, 0, 2, mX0_show)]
  | 10 => [(23, 1, 3, mX10_keyOf), (42, 0, 2, mX3_valueOn)]
  | 11 => [(11, 5, 0, mX8_init), (18, 5, 0, mX2_init), (29, 5, 0, mX9_init), (36, 5, 0, mX7_init), (43, 5, 0, mX4_init), (50, 2, 0, mX6_init), (57, 2, 0, mX0_init), (64, 5, 0, mX10_init), (69, 1, 1, mX11_isField), (73, 1, 3, mX11_fits), (78, 0, 1, mX2_record), (86, 0, 1, mX3_firstOf), (92, 0, 3, mX3_place), (96, 1, 1, mX11_isSetting), (103, 1, 3, mX11_isWithin), (106, 0, 1, mX8_settingOf), (112, 1, 1, mX11_isControl), (124, 0, 0, mX1_size), (130, 0, 1, mX9_readsAsCard), (136, 0, 1, mX1_insertBlank), (140, 0, 2, mX9_punchOn), (144, 0, 1, mX3_dueOn), (148, 0, 2, mX0_show), (152, 0, 1, mX1_has), (155, 0, 1, mX1_remove), (159, 0, 2, mX1_carry), (167, 1, 1, mX11_isColumn), (170, 0, 1, mX1_at), (173, 0, 1, mX0_shows), (183, 0, 1, mX7_begin), (187, 0, 2, mX7_passBy), (191, 0, 1, mX7_arrange), (195, 0, 1, mX3_widthOf), (202, 0, 2, mX5_begin), (206, 0, 0, mX4_begin), (208, 0, 2, mX11_feedDeck), (212, 0, 1, mX4_end), (216, 0, 0, mX2_isEmpty), (220, 0, 1, mX2_restoreInto), (223, 0, 0, mX2_size), (224, 0, 0, mX9_size), (225, 0, 1, mX9_append), (228, 0, 0, mX9_clear), (240, 0, 0, mX5_isEmpty), (241, 0, 1, mX5_lastLine), (244, 0, 0, mX5_refusedCards), (247, 0, 0, mX11_isDeckInOrder), (250, 0, 2, mX3_valueOn), (254, 0, 1, mX11_faultOfCard), (257, 0, 1, mX5_has), (258, 0, 2, mX5_number), (262, 0, 1, mX5_hadCard), (265, 0, 1, mX5_reasonOf), (268, 0, 1, mX11_acceptedTotal), (271, 0, 1, mX6_reckon), (274, 0, 2, mX6_sum), (277, 0, 0, mX6_size), (278, 0, 0, mX6_rank), (281, 0, 1, mX6_at), (298, 0, 1, mX11_passByKeyColumns), (301, 0, 2, mX7_isInKeyOrder), (305, 0, 1, mX8_copyFrom), (310, 0, 3, mX11_refusal), (314, 0, 0, mX10_key), (318, 0, 2, mX11_printJudged), (321, 0, 2, mX5_judge), (324, 0, 3, mX4_accept), (328, 0, 1, mX0_readFrom), (332, 0, 2, mX10_fillFrom), (339, 0, 0, mX5_sumOfWorkers)]
  | 12 => [(57, 0, 3, mX12_layField), (64, 1, 3, mX12_isIn), (68, 0, 2, mX12_of), (72, 0, 1, mX12_look), (76, 0, 1, mX12_width), (80, 0, 1, mX12_first), (83, 0, 1, mX12_read), (86, 0, 1, mX12_valueOf), (89, 0, 0, mX12_due), (103, 0, 2, mX12_fails), (110, 1, 1, mX12_fieldOf), (113, 1, 1, mX12_isField), (118, 0, 0, mX12_remember), (121, 1, 2, mX12_isOf), (125, 0, 2, mX12_put), (129, 0, 0, mX12_readText), (134, 0, 2, mX12_copyCard), (137, 0, 0, mX12_punchSeen), (140, 0, 1, mX12_isCard), (143, 0, 0, mX12_holdDeck), (146, 0, 2, mX12_fromHeld), (149, 1, 1, mX12_isColumn), (152, 0, 0, mX12_beginPasses), (155, 0, 1, mX12_passBy), (158, 0, 0, mX12_movedCards), (163, 0, 1, mX12_ownReason), (166, 1, 3, mX12_key), (170, 0, 2, mX12_accepted), (175, 1, 3, mX12_overtime), (179, 0, 2, mX12_printLine), (182, 0, 5, mX12_fill), (186, 0, 2, mX12_breakLevel), (189, 0, 2, mX12_breaks), (192, 0, 1, mX12_wageOf), (195, 0, 0, mX12_runCards), (198, 0, 0, mX12_printReport), (201, 0, 0, mX12_refused), (204, 0, 0, mX12_isOrdered), (208, 0, 2, mX12_isAlike), (211, 0, 1, mX12_isLast), (214, 0, 2, mX12_ofKey), (217, 0, 2, mX12_inSecondWay), (220, 0, 1, mX12_ofAll), (223, 0, 1, mX12_keyOf), (227, 0, 1, mX12_rank), (232, 0, 0, mX12_putAside), (235, 0, 1, mX12_makePasses), (238, 0, 0, mX12_putBack), (241, 1, 1, mX12_isImage)]
  | 14 => [(9, 2, 0, mX11_init), (12, 2, 0, mX12_init), (13, 0, 3, mX11_lay), (17, 0, 3, mX12_lay), (18, 0, 2, mX11_set), (22, 0, 2, mX12_set), (23, 0, 2, mX11_control), (26, 0, 2, mX12_control), (27, 0, 1, mX11_punch), (31, 0, 1, mX12_punch), (32, 0, 1, mX11_take), (35, 0, 1, mX12_take), (36, 0, 2, mX11_move), (39, 0, 2, mX12_move), (40, 0, 3, mX11_repunch), (43, 0, 3, mX12_repunch), (44, 0, 3, mX11_mark), (47, 0, 3, mX12_mark), (48, 0, 1, mX11_pass), (51, 0, 1, mX12_pass), (52, 0, 1, mX11_sort), (55, 0, 1, mX12_sort), (56, 0, 0, mX11_run), (60, 0, 0, mX12_run), (61, 0, 0, mX11_undo), (64, 0, 0, mX12_undo), (65, 0, 1, mX11_write), (68, 0, 1, mX12_write), (69, 0, 0, mX11_wipe), (72, 0, 0, mX12_wipe), (73, 0, 1, mX11_fault), (76, 0, 1, mX12_fault), (77, 0, 1, mX11_told), (80, 0, 1, mX12_told), (81, 0, 1, mX11_setting), (84, 0, 1, mX12_setting), (85, 0, 2, mX11_field), (88, 0, 2, mX12_field), (89, 0, 2, mX11_column), (92, 0, 2, mX12_column), (93, 0, 2, mX11_card), (96, 0, 2, mX12_card), (97, 0, 2, mX11_line), (100, 0, 2, mX12_line), (101, 0, 1, mX11_reason), (104, 0, 1, mX12_reason), (105, 0, 1, mX11_differs), (108, 0, 1, mX12_differs), (109, 0, 2, mX11_again), (112, 0, 2, mX12_again), (113, 0, 0, mX11_agrees), (116, 0, 0, mX12_agrees), (117, 0, 2, mX11_ranked), (120, 0, 2, mX12_ranked), (121, 0, 0, mX11_mean), (125, 0, 0, mX12_mean), (126, 0, 0, mX11_passes), (129, 0, 0, mX12_passes), (130, 0, 1, mX11_accepts), (133, 0, 1, mX12_accepts), (134, 0, 1, mX11_keep), (137, 0, 1, mX12_keep), (138, 0, 1, mX11_back), (141, 0, 1, mX12_back)]
  | _ => []
def am_spL : Nat → List (Nat × Nat) := fun c => match c with
  | 0 => [(3, 0), (34, 1)]
  | 1 => [(3, 0)]
  | 2 => [(3, 0)]
  | 3 => [(3, 0), (50, 1)]
  | 4 => [(3, 0)]
  | 5 => [(3, 0), (22, 2), (83, 1)]
  | 6 => [(3, 0)]
  | 7 => [(3, 0), (33, 2), (55, 1)]
  | 8 => [(3, 0), (54, 1)]
  | 9 => [(3, 0)]
  | 10 => [(3, 0)]
  | 11 => [(3, 0), (162, 3)]
  | 12 => [(1, 0)]
  | _ => []
def am_anL : Nat → List (Nat × Nat) := fun c => match c with
  | 1 => [(9, 1)]
  | 2 => [(9, 2)]
  | 6 => [(9, 3)]
  | 7 => [(21, 1)]
  | 11 => [(9, 2)]
  | _ => []
/-! THE SMALL MACHINE: the same bytes, over a heap of numbered cells. Cells: an array (kind, length and contents; kinds 0 int, 1 Card, 2 State, 3 Totals, 9 an int array that nobody writes) or an object (class, fields). A heap: cells by address, the next address, the slots made so far. -/
abbrev am_C : Type := (Nat × vp_A) ⊕ (Nat × List Value)
abbrev am_H : Type := (Nat → Option am_C) × Nat × Nat
abbrev am_L : Type := List (Option Value)
abbrev am_R : Type := Option (Nat × am_L × List Value × am_H)
def am_kill (o : Option Value) : Option Value := match o with
  | some w => if w.category = 2 then none else some w
  | none => none
def am_tail (v : Value) (l : am_L) : am_L := if v.category = 2 then (match l with | [] => [] | _ :: l' => none :: l') else l
def am_set (v : Value) : Nat → am_L → am_L
  | _, [] => []
  | 0, _ :: l => some v :: am_tail v l
  | 1, o :: l => am_kill o :: am_set v 0 l
  | i + 2, o :: l => o :: am_set v (i + 1) l
def am_isI (v : Value) : Bool := match v with | .int _ => true | _ => false
def am_isL (v : Value) : Bool := match v with | .long _ => true | _ => false
def am_isD (v : Value) : Bool := match v with | .double _ => true | _ => false
def am_isA (v : Value) : Bool := match v with | .ref _ => true | .null => true | _ => false
def am_load (ok : Value → Bool) (i pc : Nat) (ls : am_L) (st : List Value) (H : am_H) : am_R := match ls[i]? with
  | some (some v) => if ok v = true then some (pc, ls, v :: st, H) else none
  | _ => none
def am_store (ok : Value → Bool) (i pc : Nat) (ls : am_L) (st : List Value) (H : am_H) : am_R := match st with
  | v :: st' => if ok v = true ∧ i + v.category ≤ ls.length then some (pc, am_set v i ls, st', H) else none
  | [] => none
def am_iinc (i : Nat) (k : Int) (pc : Nat) (ls : am_L) (st : List Value) (H : am_H) : am_R := match ls[i]? with
  | some (some (.int x)) => some (pc, am_set (.int (x + Int32.ofInt k)) i ls, st, H)
  | _ => none
def am_i2 (f : Int32 → Int32 → Option Int32) (pc : Nat) (ls : am_L) (st : List Value) (H : am_H) : am_R := match st with
  | .int y :: .int x :: st' => (match f x y with | some z => some (pc, ls, .int z :: st', H) | none => none)
  | _ => none
def am_l2 (f : Int64 → Int64 → Option Value) (pc : Nat) (ls : am_L) (st : List Value) (H : am_H) : am_R := match st with
  | .long y :: .long x :: st' => (match f x y with | some z => some (pc, ls, z :: st', H) | none => none)
  | _ => none
def am_u1 (f : Value → Option Value) (pc : Nat) (ls : am_L) (st : List Value) (H : am_H) : am_R := match st with
  | v :: st' => (match f v with | some z => some (pc, ls, z :: st', H) | none => none)
  | [] => none
def am_tgt (pc : Nat) (off : Int) (ls : am_L) (st : List Value) (H : am_H) : am_R := if 0 ≤ (pc : Int) + off then some (((pc : Int) + off).toNat, ls, st, H) else none
def am_c1 (k : ClassFile.Cond) (x : Int32) : Bool := match k with
  | .eq => decide (x = 0)
  | .ne => decide (¬ x = 0)
  | .lt => decide (x < 0)
  | .ge => decide (0 ≤ x)
  | .gt => decide (0 < x)
  | .le => decide (x ≤ 0)
def am_c2 (k : ClassFile.Cond) (x y : Int32) : Bool := match k with
  | .eq => decide (x = y)
  | .ne => decide (¬ x = y)
  | .lt => decide (x < y)
  | .ge => decide (y ≤ x)
  | .gt => decide (y < x)
  | .le => decide (x ≤ y)
def am_if1 (k : ClassFile.Cond) (off : Int) (pc : Nat) (ls : am_L) (st : List Value) (H : am_H) : am_R := match st with
  | .int x :: st' => if 0 ≤ (pc : Int) + off then some (if am_c1 k x = true then ((pc : Int) + off).toNat else pc + 3, ls, st', H) else none
  | _ => none
def am_if2 (k : ClassFile.Cond) (off : Int) (pc : Nat) (ls : am_L) (st : List Value) (H : am_H) : am_R := match st with
  | .int y :: .int x :: st' => if 0 ≤ (pc : Int) + off then some (if am_c2 k x y = true then ((pc : Int) + off).toNat else pc + 3, ls, st', H) else none
  | _ => none
def am_nn (off : Int) (pc : Nat) (ls : am_L) (st : List Value) (H : am_H) : am_R := match st with
  | .ref _ :: st' => am_tgt pc off ls st' H
  | .null :: st' => some (pc + 3, ls, st', H)
  | _ => none
def am_tsw (dflt lo hi : Int) (offs : Array Int) (pc : Nat) (ls : am_L) (st : List Value) (H : am_H) : am_R := match st with
  | .int x :: st' => if x.toInt < lo ∨ hi < x.toInt then am_tgt pc dflt ls st' H else (match offs[(x.toInt - lo).toNat]? with | some off => am_tgt pc off ls st' H | none => none)
  | _ => none
def am_lsw (dflt : Int) (ps : Array (Int × Int)) (pc : Nat) (ls : am_L) (st : List Value) (H : am_H) : am_R := match st with
  | .int x :: st' => if (ps.toList.zip (ps.toList.drop 1)).all (fun (a, next) => a.1 < next.1) = true then am_tgt pc (Op.lookupswitch.offset ps.toList dflt x.toInt) ls st' H else none
  | _ => none
def am_dup (pc : Nat) (ls : am_L) (st : List Value) (H : am_H) : am_R := match st with
  | v :: st' => if v.category = 1 then some (pc, ls, v :: v :: st', H) else none
  | [] => none
def am_dup2 (pc : Nat) (ls : am_L) (st : List Value) (H : am_H) : am_R := match st with
  | v :: w :: st' => if v.category = 1 ∧ w.category = 1 then some (pc, ls, v :: w :: v :: w :: st', H) else none
  | _ => none
def am_okv (ty : FieldType) (v : Value) : Bool := match ty, v with
  | .int, .int _ => true
  | .object _, .ref _ => true
  | .object _, .null => true
  | .array _, .ref _ => true
  | .array _, .null => true
  | _, _ => false
def am_ini (mi : am_I) : Bool := mi.2.2.1.name == "<init>"
def am_getf (c cp pc : Nat) (ls : am_L) (st : List Value) (H : am_H) : am_R := match st, (am_fldL c).lookup cp with
  | .ref a :: st', some (ci, k) => (match H.1 a with
    | some (.inr (cj, fs)) => if cj = ci then (match fs[k]? with | some v => some (pc, ls, v :: st', H) | none => none) else none
    | _ => none)
  | _, _ => none
def am_fin (ci k : Nat) : Bool := match vwCl[ci]? with
  | some r => (r.2.1 k).2.2.2
  | none => true
def am_putf (ini : Bool) (c cp pc : Nat) (ls : am_L) (st : List Value) (H : am_H) : am_R := match st, (am_fldL c).lookup cp with
  | v :: .ref a :: st', some (ci, k) => (match H.1 a with
    | some (.inr (cj, fs)) => if cj = ci ∧ am_okv (am_tys ci k) v = true ∧ (am_fin ci k = false ∨ (ini = true ∧ ci = c)) then some (pc, ls, st', va_up H.1 a (some (.inr (ci, fs.set k v))), H.2.1, H.2.2) else none
    | _ => none)
  | _, _ => none
def am_gets (sA c cp pc : Nat) (ls : am_L) (st : List Value) (H : am_H) : am_R := if c = 11 ∧ cp = 99 then some (pc, ls, .ref sA :: st, H) else none
def am_bl (ci : Nat) : List Value := match vwCl[ci]? with
  | some r => (List.range r.2.2).map (fun k => defaultValue (am_tys ci k))
  | none => []
def am_nf (ci : Nat) : Nat := match vwCl[ci]? with
  | some r => r.2.2
  | none => 0
def am_new (c cp pc : Nat) (ls : am_L) (st : List Value) (H : am_H) : am_R := match (am_newL c).lookup cp with
  | some ci => some (pc, ls, .ref H.2.1 :: st, va_up H.1 H.2.1 (some (.inr (ci, am_bl ci))), H.2.1 + 1, H.2.2 + am_nf ci)
  | none => none
def am_newa (pc : Nat) (ls : am_L) (st : List Value) (H : am_H) : am_R := match st with
  | .int n :: st' => if 0 ≤ n ∧ n.toNatClampNeg ≤ 100000 then some (pc, ls, .ref H.2.1 :: st', va_up H.1 H.2.1 (some (.inl (0, n.toNatClampNeg, .inl (fun _ => 0)))), H.2.1 + 1, H.2.2 + n.toNatClampNeg) else none
  | _ => none
def am_anew (c cp pc : Nat) (ls : am_L) (st : List Value) (H : am_H) : am_R := match st, (am_anL c).lookup cp with
  | .int n :: st', some t => if 0 ≤ n ∧ n.toNatClampNeg ≤ 100000 then some (pc, ls, .ref H.2.1 :: st', va_up H.1 H.2.1 (some (.inl (t, n.toNatClampNeg, .inr (.inr (.inr (.inr (fun _ => none))))))), H.2.1 + 1, H.2.2 + n.toNatClampNeg) else none
  | _, _ => none
def am_iald (pc : Nat) (ls : am_L) (st : List Value) (H : am_H) : am_R := match st with
  | .int i :: .ref a :: st' => (match H.1 a with
    | some (.inl (t, n, .inl f)) => if (t = 0 ∨ t = 9) ∧ 0 ≤ i ∧ i.toNatClampNeg < n then some (pc, ls, .int (f i.toNatClampNeg) :: st', H) else none
    | _ => none)
  | _ => none
def am_iast (pc : Nat) (ls : am_L) (st : List Value) (H : am_H) : am_R := match st with
  | .int x :: .int i :: .ref a :: st' => (match H.1 a with
    | some (.inl (t, n, .inl f)) => if t = 0 ∧ 0 ≤ i ∧ i.toNatClampNeg < n then some (pc, ls, st', va_up H.1 a (some (.inl (0, n, .inl (upd f i.toNatClampNeg x)))), H.2.1, H.2.2) else none
    | _ => none)
  | _ => none
def am_aald (pc : Nat) (ls : am_L) (st : List Value) (H : am_H) : am_R := match st with
  | .int i :: .ref a :: st' => (match H.1 a with
    | some (.inl (t, n, .inr (.inr (.inr (.inr f))))) => if (0 < t ∧ t < 4) ∧ 0 ≤ i ∧ i.toNatClampNeg < n then some (pc, ls, va_rf (f i.toNatClampNeg) :: st', H) else none
    | _ => none)
  | _ => none
/-- the class of which an array of references of a kind holds -/
def am_comp (t : Nat) : Nat := match t with
  | 1 => 0
  | 2 => 8
  | _ => 10
def am_aast (pc : Nat) (ls : am_L) (st : List Value) (H : am_H) : am_R := match st with
  | .ref b :: .int i :: .ref a :: st' => (match H.1 a, H.1 b with
    | some (.inl (t, n, .inr (.inr (.inr (.inr f))))), some (.inr (ci, _)) => if ((0 < t ∧ t < 4) ∧ ci = am_comp t) ∧ 0 ≤ i ∧ i.toNatClampNeg < n then some (pc, ls, st', va_up H.1 a (some (.inl (t, n, .inr (.inr (.inr (.inr (va_up f i.toNatClampNeg (some b)))))))), H.2.1, H.2.2) else none
    | _, _ => none)
  | _ => none
def am_alen (pc : Nat) (ls : am_L) (st : List Value) (H : am_H) : am_R := match st with
  | .ref a :: st' => (match H.1 a with
    | some (.inl (t, n, .inl _)) => if t = 0 ∨ t = 9 then some (pc, ls, .int (Int32.ofNat n) :: st', H) else none
    | _ => none)
  | _ => none
def am_cat (st : List Value) : Nat := (st.map fun v => v.category).sum
/-- Object's constructor, System.arraycopy of ints, Math.min, Math.abs -/
def am_obj (mi : am_I) (pc : Nat) (ls : am_L) (st : List Value) (H : am_H) : am_R := match st with
  | .ref _ :: st' => if 1 ≤ mi.2.2.2.2.2.1 ∧ am_cat st' + 12 ≤ mi.2.2.2.2.2.2 then some (pc + 3, ls, st', H) else none
  | _ => none
def am_copy (mi : am_I) (pc : Nat) (ls : am_L) (st : List Value) (H : am_H) : am_R := match st with
  | .int n :: .int dp :: .ref a :: .int sp :: .ref a0 :: st' => (match H.1 a0, H.1 a with
    | some (.inl (t0, n0, .inl f)), some (.inl (t1, n1, .inl g)) => if (t0 = 0 ∧ t1 = 0) ∧ (0 ≤ sp ∧ 0 ≤ dp ∧ 0 ≤ n) ∧ (sp.toNatClampNeg + n.toNatClampNeg ≤ n0 ∧ dp.toNatClampNeg + n.toNatClampNeg ≤ n1) ∧ 1 ≤ mi.2.2.2.2.2.1 ∧ am_cat st' + 18 ≤ mi.2.2.2.2.2.2 then some (pc + 3, ls, st', va_up H.1 a (some (.inl (0, n1, .inl (va_cpy f g sp.toNatClampNeg dp.toNatClampNeg n.toNatClampNeg)))), H.2.1, H.2.2) else none
    | _, _ => none)
  | _ => none
def am_min (mi : am_I) (pc : Nat) (ls : am_L) (st : List Value) (H : am_H) : am_R := match st with
  | .int y :: .int x :: st' => if 1 ≤ mi.2.2.2.2.2.1 ∧ am_cat st' + 13 ≤ mi.2.2.2.2.2.2 then some (pc + 3, ls, .int (if y < x then y else x) :: st', H) else none
  | _ => none
def am_abs (mi : am_I) (pc : Nat) (ls : am_L) (st : List Value) (H : am_H) : am_R := match st with
  | .int x :: st' => if 1 ≤ mi.2.2.2.2.2.1 ∧ am_cat st' + 13 ≤ mi.2.2.2.2.2.2 then some (pc + 3, ls, .int (if 0 ≤ x then x else 0 - x) :: st', H) else none
  | _ => none
def am_special (mi : am_I) (cp pc : Nat) (ls : am_L) (st : List Value) (H : am_H) : am_R := match (am_spL mi.1).lookup cp with
  | some 1 => am_copy mi pc ls st H
  | some 2 => am_min mi pc ls st H
  | some 3 => am_abs mi pc ls st H
  | _ => none
def am_objI (mi : am_I) (cp pc : Nat) (ls : am_L) (st : List Value) (H : am_H) : am_R := match (am_spL mi.1).lookup cp with
  | some 0 => am_obj mi pc ls st H
  | _ => none
def am_push (pc : Nat) (ls : am_L) (st : List Value) (H : am_H) (v : Value) : am_R := some (pc, ls, v :: st, H)
def am_pushO (pc : Nat) (ls : am_L) (st : List Value) (H : am_H) (v : Option Value) : am_R := match v with
  | some v => some (pc, ls, v :: st, H)
  | none => none
def am_n32 (r : UInt32) : Option Value := if r &&& 0x7fffffff ≤ 0x7f800000 then some (.float r) else none
def am_n64 (r : UInt64) : Option Value := if r &&& 0x7fffffffffffffff ≤ 0x7ff0000000000000 then some (.double r) else none
def am_f2 (f : UInt32 → UInt32 → Option Value) (pc : Nat) (ls : am_L) (st : List Value) (H : am_H) : am_R := match st with
  | .float y :: .float x :: st' => am_pushO pc ls st' H (f x y)
  | _ => none
def am_d2 (f : UInt64 → UInt64 → Option Value) (pc : Nat) (ls : am_L) (st : List Value) (H : am_H) : am_R := match st with
  | .double y :: .double x :: st' => am_pushO pc ls st' H (f x y)
  | _ => none
/-- one instruction that neither calls nor returns -/
def am_step (sA : Nat) (mi : am_I) (i : Instr) (pc : Nat) (ls : am_L) (st : List Value) (H : am_H) : am_R := match i with
  | .iconst n => am_push (pc + 1) ls st H (.int (Int32.ofInt n))
  | .bipush n => am_push (pc + 2) ls st H (.int (Int8.ofInt n).toInt32)
  | .sipush n => am_push (pc + 3) ls st H (.int (Int16.ofInt n).toInt32)
  | .ldc cp => am_pushO (pc + 2) ls st H (((am_conL mi.1).lookup cp).map .int)
  | .ldc2_w cp => am_pushO (pc + 3) ls st H (((am_lngL mi.1).lookup cp).map .long)
  | .fconst k => if k = 0 then am_push (pc + 1) ls st H (.float FP.fconst0) else none
  | .aconst_null => am_push (pc + 1) ls st H .null
  | .iload_n k => am_load am_isI k (pc + 1) ls st H
  | .iload k => am_load am_isI k (pc + 2) ls st H
  | .lload_n k => am_load am_isL k (pc + 1) ls st H
  | .lload k => am_load am_isL k (pc + 2) ls st H
  | .dload k => am_load am_isD k (pc + 2) ls st H
  | .aload_n k => am_load am_isA k (pc + 1) ls st H
  | .aload k => am_load am_isA k (pc + 2) ls st H
  | .istore_n k => am_store am_isI k (pc + 1) ls st H
  | .istore k => am_store am_isI k (pc + 2) ls st H
  | .lstore_n k => am_store am_isL k (pc + 1) ls st H
  | .lstore k => am_store am_isL k (pc + 2) ls st H
  | .dstore k => am_store am_isD k (pc + 2) ls st H
  | .astore_n k => am_store am_isA k (pc + 1) ls st H
  | .astore k => am_store am_isA k (pc + 2) ls st H
  | .iinc k n => am_iinc k n (pc + 3) ls st H
  | .iadd => am_i2 (fun x y => some (x + y)) (pc + 1) ls st H
  | .isub => am_i2 (fun x y => some (x - y)) (pc + 1) ls st H
  | .imul => am_i2 (fun x y => some (x * y)) (pc + 1) ls st H
  | .iand => am_i2 (fun x y => some (x &&& y)) (pc + 1) ls st H
  | .ior => am_i2 (fun x y => some (x ||| y)) (pc + 1) ls st H
  | .ixor => am_i2 (fun x y => some (x ^^^ y)) (pc + 1) ls st H
  | .idiv => am_i2 (fun x y => if y = 0 then none else some (x / y)) (pc + 1) ls st H
  | .irem => am_i2 (fun x y => if y = 0 then none else some (x - x / y * y)) (pc + 1) ls st H
  | .ishl => am_i2 (fun x y => some (x <<< (y &&& 31))) (pc + 1) ls st H
  | .ishr => am_i2 (fun x y => some (x >>> (y &&& 31))) (pc + 1) ls st H
  | .ineg => am_u1 (fun v => match v with | .int x => some (.int (-x)) | _ => none) (pc + 1) ls st H
  | .ladd => am_l2 (fun x y => some (.long (x + y))) (pc + 1) ls st H
  | .lmul => am_l2 (fun x y => some (.long (x * y))) (pc + 1) ls st H
  | .ldiv => am_l2 (fun x y => if y = 0 then none else some (.long (x / y))) (pc + 1) ls st H
  | .lcmp => am_l2 (fun x y => some (.int (lg_cmp x y))) (pc + 1) ls st H
  | .i2l => am_u1 (fun v => match v with | .int x => some (.long x.toInt64) | _ => none) (pc + 1) ls st H
  | .l2i => am_u1 (fun v => match v with | .long x => some (.int x.toInt32) | _ => none) (pc + 1) ls st H
  | .l2f => am_u1 (fun v => match v with | .long x => some (.float (FP.l2f x)) | _ => none) (pc + 1) ls st H
  | .i2f => am_u1 (fun v => match v with | .int x => some (.float (FP.i2f x)) | _ => none) (pc + 1) ls st H
  | .f2d => am_u1 (fun v => match v with | .float x => am_n64 (FP.f2d x) | _ => none) (pc + 1) ls st H
  | .fdiv => am_f2 (fun x y => am_n32 (FP.fdiv x y)) (pc + 1) ls st H
  | .dcmp op => am_d2 (fun x y => some (.int (Op.cmpValue (FP.dcmp x y) op))) (pc + 1) ls st H
  | .dup => am_dup (pc + 1) ls st H
  | .dup2 => am_dup2 (pc + 1) ls st H
  | .ifCond k off => am_if1 k off pc ls st H
  | .if_icmp k off => am_if2 k off pc ls st H
  | .ifnonnull off => am_nn off pc ls st H
  | .goto off => am_tgt pc off ls st H
  | .tableswitch d lo hi offs => am_tsw d lo hi offs pc ls st H
  | .lookupswitch d ps => am_lsw d ps pc ls st H
  | .getfield cp => am_getf mi.1 cp (pc + 3) ls st H
  | .putfield cp => am_putf (am_ini mi) mi.1 cp (pc + 3) ls st H
  | .getstatic cp => am_gets sA mi.1 cp (pc + 3) ls st H
  | .new cp => am_new mi.1 cp (pc + 3) ls st H
  | .newarray t => if t = .int then am_newa (pc + 2) ls st H else none
  | .anewarray cp => am_anew mi.1 cp (pc + 3) ls st H
  | .iaload => am_iald (pc + 1) ls st H
  | .iastore => am_iast (pc + 1) ls st H
  | .aaload => am_aald (pc + 1) ls st H
  | .aastore => am_aast (pc + 1) ls st H
  | .arraylength => am_alen (pc + 1) ls st H
  | .invokestatic cp => am_special mi cp pc ls st H
  | .invokespecial cp => am_objI mi cp pc ls st H
  | _ => none
/-- how many bytes an instruction has -/
def am_lenOk (i : Instr) (n : Nat) : Bool := match i with
  | .bipush _ => n == 2
  | .ldc _ => n == 2
  | .iload _ => n == 2
  | .lload _ => n == 2
  | .dload _ => n == 2
  | .aload _ => n == 2
  | .istore _ => n == 2
  | .lstore _ => n == 2
  | .dstore _ => n == 2
  | .astore _ => n == 2
  | .newarray _ => n == 2
  | .sipush _ => n == 3
  | .ldc2_w _ => n == 3
  | .iinc _ _ => n == 3
  | .ifCond _ _ => n == 3
  | .if_icmp _ _ => n == 3
  | .ifnonnull _ => n == 3
  | .goto _ => n == 3
  | .getfield _ => n == 3
  | .putfield _ => n == 3
  | .getstatic _ => n == 3
  | .new _ => n == 3
  | .anewarray _ => n == 3
  | .invokevirtual _ => n == 3
  | .invokestatic _ => n == 3
  | .invokespecial _ => n == 3
  | .tableswitch _ _ _ _ => true
  | .lookupswitch _ _ => true
  | _ => n == 1
/-- a method's end -/
def am_ret (mi : am_I) (i : Instr) (st : List Value) : Option (Option Value) := match i, st with
  | .ireturn, [.int v] => (match mi.2.2.2.2.1 with
    | some .int => some (some (.int v))
    | some .boolean => if v = 0 ∨ v = 1 then some (some (.int v)) else none
    | _ => none)
  | .lreturn, [.long v] => (match mi.2.2.2.2.1 with | some .long => some (some (.long v)) | _ => none)
  | .freturn, [.float v] => (match mi.2.2.2.2.1 with | some .float => some (some (.float v)) | _ => none)
  | .areturn, [.ref v] => (match mi.2.2.2.2.1 with | some (.object _) => some (some (.ref v)) | _ => none)
  | .return_, [] => (match mi.2.2.2.2.1 with | none => some none | _ => none)
  | _, _ => none
/-- a call: the method, its arguments, the stack behind it -/
def am_callS (mi : am_I) (k n : Nat) (mj : am_I) (st : List Value) (H : am_H) : Option (am_I × List Value × List Value) :=
  let As := (st.take n).reverse
  if As.length = n ∧ mj.2.2.2.2.2.1 + 1 ≤ mi.2.2.2.2.2.1 ∧ 8 + (mj.2.2.2.1 + 11) + mj.2.2.2.2.2.2 ≤ mi.2.2.2.2.2.2 then
    (if k = 1 ∨ k = 4 then (if am_cat (st.drop n) ≤ 8 then some (mj, As, st.drop n) else none)
     else match st.drop n with
      | .ref b :: rest => if am_cat rest ≤ 8 then (if k = 0 then (match H.1 b with | some (.inr (ci, _)) => if ci = mj.1 then some (mj, .ref b :: As, rest) else none | _ => none) else some (mj, .ref b :: As, rest)) else none
      | _ => none)
  else none
def am_call (mi : am_I) (i : Instr) (st : List Value) (H : am_H) : Option (am_I × List Value × List Value) := match i with
  | .invokevirtual cp => (match (am_callL mi.1).lookup cp with | some (k, n, mj) => if k = 0 then am_callS mi k n mj st H else none | none => none)
  | .invokestatic cp => (match (am_callL mi.1).lookup cp with | some (k, n, mj) => if k = 1 ∨ k = 4 then am_callS mi k n mj st H else none | none => none)
  | .invokespecial cp => (match (am_callL mi.1).lookup cp with | some (k, n, mj) => if k = 2 ∨ k = 5 then am_callS mi k n mj st H else none | none => none)
  | _ => none
def am_flat (vs : List Value) : am_L := vs.flatMap fun v => if v.category = 2 then [some v, none] else [some v]
def am_entry (vs : List Value) (n : Nat) : am_L := am_flat vs ++ List.replicate (n - (am_flat vs).length) none
/-- a method's run, with fuel -/
def am_exec (sA : Nat) : Nat → am_I → Nat → am_L → List Value → am_H → Option (Option Value × am_H)
  | 0, _, _, _, _, _ => none
  | n + 1, mi, pc, ls, st, H => match decode mi.2.1 pc with
    | .error _ => none
    | .ok (i, n0) => if am_lenOk i n0 = true then (match am_ret mi i st with
      | some r => some (r, H)
      | none => match am_call mi i st H with
        | some (mj, As, rest) => if (am_flat As).length ≤ mj.2.2.2.1 then (match am_exec sA n mj 0 (am_entry As mj.2.2.2.1) [] H with
          | some (r, H') => am_exec sA n mi (pc + 3) ls (r.toList ++ rest) H'
          | none => none) else none
        | none => match am_step sA mi i pc ls st H with
          | some (pc', ls', st', H') => if H.2.1 ≤ H'.2.1 ∧ H.2.2 ≤ H'.2.2 then am_exec sA n mi pc' ls' st' H' else none
          | none => none) else none
end
section
theorem wr1 : ∀ w ∈ wsL_law_r1, w ∈ wsL_law := fun _ h => List.mem_append_left _ (List.mem_append_left _ (List.mem_append_left _ (List.mem_append_left _ (List.mem_append_left _ (List.mem_append_left _ (List.mem_append_left _ (List.mem_append_left _ (List.mem_append_left _ (List.mem_append_left _ (List.mem_append_left _ (List.mem_append_left _ (List.mem_append_left _ (List.mem_append_left _ (List.mem_append_left _ (h)))))))))))))))
theorem wr2 : ∀ w ∈ wsL_law_r2, w ∈ wsL_law := fun _ h => List.mem_append_left _ (List.mem_append_left _ (List.mem_append_left _ (List.mem_append_left _ (List.mem_append_left _ (List.mem_append_left _ (List.mem_append_left _ (List.mem_append_left _ (List.mem_append_left _ (List.mem_append_left _ (List.mem_append_left _ (List.mem_append_left _ (List.mem_append_left _ (List.mem_append_left _ (List.mem_append_right _ (List.mem_append_left _ (h))))))))))))))))
theorem wr3 : ∀ w ∈ wsL_law_r3, w ∈ wsL_law := fun _ h => List.mem_append_left _ (List.mem_append_left _ (List.mem_append_left _ (List.mem_append_left _ (List.mem_append_left _ (List.mem_append_left _ (List.mem_append_left _ (List.mem_append_left _ (List.mem_append_left _ (List.mem_append_left _ (List.mem_append_left _ (List.mem_append_left _ (List.mem_append_left _ (List.mem_append_left _ (List.mem_append_right _ (List.mem_append_right _ (List.mem_append_left _ (h)))))))))))))))))
theorem wr4 : ∀ w ∈ wsL_law_r4, w ∈ wsL_law := fun _ h => List.mem_append_left _ (List.mem_append_left _ (List.mem_append_left _ (List.mem_append_left _ (List.mem_append_left _ (List.mem_append_left _ (List.mem_append_left _ (List.mem_append_left _ (List.mem_append_left _ (List.mem_append_left _ (List.mem_append_left _ (List.mem_append_left _ (List.mem_append_left _ (List.mem_append_left _ (List.mem_append_right _ (List.mem_append_right _ (List.mem_append_right _ (List.mem_append_left _ (h))))))))))))))))))
theorem wr5 : ∀ w ∈ wsL_law_r5, w ∈ wsL_law := fun _ h => List.mem_append_left _ (List.mem_append_left _ (List.mem_append_left _ (List.mem_append_left _ (List.mem_append_left _ (List.mem_append_left _ (List.mem_append_left _ (List.mem_append_left _ (List.mem_append_left _ (List.mem_append_left _ (List.mem_append_left _ (List.mem_append_left _ (List.mem_append_left _ (List.mem_append_left _ (List.mem_append_right _ (List.mem_append_right _ (List.mem_append_right _ (List.mem_append_right _ (List.mem_append_left _ (h)))))))))))))))))))
theorem wr6 : ∀ w ∈ wsL_law_r6, w ∈ wsL_law := fun _ h => List.mem_append_left _ (List.mem_append_left _ (List.mem_append_left _ (List.mem_append_left _ (List.mem_append_left _ (List.mem_append_left _ (List.mem_append_left _ (List.mem_append_left _ (List.mem_append_left _ (List.mem_append_left _ (List.mem_append_left _ (List.mem_append_left _ (List.mem_append_left _ (List.mem_append_left _ (List.mem_append_right _ (List.mem_append_right _ (List.mem_append_right _ (List.mem_append_right _ (List.mem_append_right _ (List.mem_append_left _ (h))))))))))))))))))))
theorem wr7 : ∀ w ∈ wsL_law_r7, w ∈ wsL_law := fun _ h => List.mem_append_left _ (List.mem_append_left _ (List.mem_append_left _ (List.mem_append_left _ (List.mem_append_left _ (List.mem_append_left _ (List.mem_append_left _ (List.mem_append_left _ (List.mem_append_left _ (List.mem_append_left _ (List.mem_append_left _ (List.mem_append_left _ (List.mem_append_left _ (List.mem_append_left _ (List.mem_append_right _ (List.mem_append_right _ (List.mem_append_right _ (List.mem_append_right _ (List.mem_append_right _ (List.mem_append_right _ (List.mem_append_left _ (h)))))))))))))))))))))
theorem wr8 : ∀ w ∈ wsL_law_r8, w ∈ wsL_law := fun _ h => List.mem_append_left _ (List.mem_append_left _ (List.mem_append_left _ (List.mem_append_left _ (List.mem_append_left _ (List.mem_append_left _ (List.mem_append_left _ (List.mem_append_left _ (List.mem_append_left _ (List.mem_append_left _ (List.mem_append_left _ (List.mem_append_left _ (List.mem_append_left _ (List.mem_append_left _ (List.mem_append_right _ (List.mem_append_right _ (List.mem_append_right _ (List.mem_append_right _ (List.mem_append_right _ (List.mem_append_right _ (List.mem_append_right _ (List.mem_append_left _ (h))))))))))))))))))))))
theorem wr9 : ∀ w ∈ wsL_law_r9, w ∈ wsL_law := fun _ h => List.mem_append_left _ (List.mem_append_left _ (List.mem_append_left _ (List.mem_append_left _ (List.mem_append_left _ (List.mem_append_left _ (List.mem_append_left _ (List.mem_append_left _ (List.mem_append_left _ (List.mem_append_left _ (List.mem_append_left _ (List.mem_append_left _ (List.mem_append_left _ (List.mem_append_left _ (List.mem_append_right _ (List.mem_append_right _ (List.mem_append_right _ (List.mem_append_right _ (List.mem_append_right _ (List.mem_append_right _ (List.mem_append_right _ (List.mem_append_right _ (List.mem_append_left _ (h)))))))))))))))))))))))
theorem wr10 : ∀ w ∈ wsL_law_r10, w ∈ wsL_law := fun _ h => List.mem_append_left _ (List.mem_append_left _ (List.mem_append_left _ (List.mem_append_left _ (List.mem_append_left _ (List.mem_append_left _ (List.mem_append_left _ (List.mem_append_left _ (List.mem_append_left _ (List.mem_append_left _ (List.mem_append_left _ (List.mem_append_left _ (List.mem_append_left _ (List.mem_append_left _ (List.mem_append_right _ (List.mem_append_right _ (List.mem_append_right _ (List.mem_append_right _ (List.mem_append_right _ (List.mem_append_right _ (List.mem_append_right _ (List.mem_append_right _ (List.mem_append_right _ (List.mem_append_left _ (h))))))))))))))))))))))))
theorem wr11 : ∀ w ∈ wsL_law_r11, w ∈ wsL_law := fun _ h => List.mem_append_left _ (List.mem_append_left _ (List.mem_append_left _ (List.mem_append_left _ (List.mem_append_left _ (List.mem_append_left _ (List.mem_append_left _ (List.mem_append_left _ (List.mem_append_left _ (List.mem_append_left _ (List.mem_append_left _ (List.mem_append_left _ (List.mem_append_left _ (List.mem_append_left _ (List.mem_append_right _ (List.mem_append_right _ (List.mem_append_right _ (List.mem_append_right _ (List.mem_append_right _ (List.mem_append_right _ (List.mem_append_right _ (List.mem_append_right _ (List.mem_append_right _ (List.mem_append_right _ (List.mem_append_left _ (h)))))))))))))))))))))))))
theorem wr12 : ∀ w ∈ wsL_law_r12, w ∈ wsL_law := fun _ h => List.mem_append_left _ (List.mem_append_left _ (List.mem_append_left _ (List.mem_append_left _ (List.mem_append_left _ (List.mem_append_left _ (List.mem_append_left _ (List.mem_append_left _ (List.mem_append_left _ (List.mem_append_left _ (List.mem_append_left _ (List.mem_append_left _ (List.mem_append_left _ (List.mem_append_left _ (List.mem_append_right _ (List.mem_append_right _ (List.mem_append_right _ (List.mem_append_right _ (List.mem_append_right _ (List.mem_append_right _ (List.mem_append_right _ (List.mem_append_right _ (List.mem_append_right _ (List.mem_append_right _ (List.mem_append_right _ (List.mem_append_left _ (h))))))))))))))))))))))))))
theorem wr13 : ∀ w ∈ wsL_law_r13, w ∈ wsL_law := fun _ h => List.mem_append_left _ (List.mem_append_left _ (List.mem_append_left _ (List.mem_append_left _ (List.mem_append_left _ (List.mem_append_left _ (List.mem_append_left _ (List.mem_append_left _ (List.mem_append_left _ (List.mem_append_left _ (List.mem_append_left _ (List.mem_append_left _ (List.mem_append_left _ (List.mem_append_left _ (List.mem_append_right _ (List.mem_append_right _ (List.mem_append_right _ (List.mem_append_right _ (List.mem_append_right _ (List.mem_append_right _ (List.mem_append_right _ (List.mem_append_right _ (List.mem_append_right _ (List.mem_append_right _ (List.mem_append_right _ (List.mem_append_right _ (List.mem_append_left _ (h)))))))))))))))))))))))))))
theorem wr14 : ∀ w ∈ wsL_law_r14, w ∈ wsL_law := fun _ h => List.mem_append_left _ (List.mem_append_left _ (List.mem_append_left _ (List.mem_append_left _ (List.mem_append_left _ (List.mem_append_left _ (List.mem_append_left _ (List.mem_append_left _ (List.mem_append_left _ (List.mem_append_left _ (List.mem_append_left _ (List.mem_append_left _ (List.mem_append_left _ (List.mem_append_left _ (List.mem_append_right _ (List.mem_append_right _ (List.mem_append_right _ (List.mem_append_right _ (List.mem_append_right _ (List.mem_append_right _ (List.mem_append_right _ (List.mem_append_right _ (List.mem_append_right _ (List.mem_append_right _ (List.mem_append_right _ (List.mem_append_right _ (List.mem_append_right _ (List.mem_append_left _ (h))))))))))))))))))))))))))))
theorem wr15 : ∀ w ∈ wsL_law_r15, w ∈ wsL_law := fun _ h => List.mem_append_left _ (List.mem_append_left _ (List.mem_append_left _ (List.mem_append_left _ (List.mem_append_left _ (List.mem_append_left _ (List.mem_append_left _ (List.mem_append_left _ (List.mem_append_left _ (List.mem_append_left _ (List.mem_append_left _ (List.mem_append_left _ (List.mem_append_left _ (List.mem_append_left _ (List.mem_append_right _ (List.mem_append_right _ (List.mem_append_right _ (List.mem_append_right _ (List.mem_append_right _ (List.mem_append_right _ (List.mem_append_right _ (List.mem_append_right _ (List.mem_append_right _ (List.mem_append_right _ (List.mem_append_right _ (List.mem_append_right _ (List.mem_append_right _ (List.mem_append_right _ (List.mem_append_left _ (h)))))))))))))))))))))))))))))
theorem wr16 : ∀ w ∈ wsL_law_r16, w ∈ wsL_law := fun _ h => List.mem_append_left _ (List.mem_append_left _ (List.mem_append_left _ (List.mem_append_left _ (List.mem_append_left _ (List.mem_append_left _ (List.mem_append_left _ (List.mem_append_left _ (List.mem_append_left _ (List.mem_append_left _ (List.mem_append_left _ (List.mem_append_left _ (List.mem_append_left _ (List.mem_append_left _ (List.mem_append_right _ (List.mem_append_right _ (List.mem_append_right _ (List.mem_append_right _ (List.mem_append_right _ (List.mem_append_right _ (List.mem_append_right _ (List.mem_append_right _ (List.mem_append_right _ (List.mem_append_right _ (List.mem_append_right _ (List.mem_append_right _ (List.mem_append_right _ (List.mem_append_right _ (List.mem_append_right _ (List.mem_append_left _ (h))))))))))))))))))))))))))))))
theorem wr17 : ∀ w ∈ wsL_law_r17, w ∈ wsL_law := fun _ h => List.mem_append_left _ (List.mem_append_left _ (List.mem_append_left _ (List.mem_append_left _ (List.mem_append_left _ (List.mem_append_left _ (List.mem_append_left _ (List.mem_append_left _ (List.mem_append_left _ (List.mem_append_left _ (List.mem_append_left _ (List.mem_append_left _ (List.mem_append_left _ (List.mem_append_left _ (List.mem_append_right _ (List.mem_append_right _ (List.mem_append_right _ (List.mem_append_right _ (List.mem_append_right _ (List.mem_append_right _ (List.mem_append_right _ (List.mem_append_right _ (List.mem_append_right _ (List.mem_append_right _ (List.mem_append_right _ (List.mem_append_right _ (List.mem_append_right _ (List.mem_append_right _ (List.mem_append_right _ (List.mem_append_right _ (List.mem_append_left _ (h)))))))))))))))))))))))))))))))
theorem wr18 : ∀ w ∈ wsL_law_r18, w ∈ wsL_law := fun _ h => List.mem_append_left _ (List.mem_append_left _ (List.mem_append_left _ (List.mem_append_left _ (List.mem_append_left _ (List.mem_append_left _ (List.mem_append_left _ (List.mem_append_left _ (List.mem_append_left _ (List.mem_append_left _ (List.mem_append_left _ (List.mem_append_left _ (List.mem_append_left _ (List.mem_append_left _ (List.mem_append_right _ (List.mem_append_right _ (List.mem_append_right _ (List.mem_append_right _ (List.mem_append_right _ (List.mem_append_right _ (List.mem_append_right _ (List.mem_append_right _ (List.mem_append_right _ (List.mem_append_right _ (List.mem_append_right _ (List.mem_append_right _ (List.mem_append_right _ (List.mem_append_right _ (List.mem_append_right _ (List.mem_append_right _ (List.mem_append_right _ (List.mem_append_left _ (h))))))))))))))))))))))))))))))))
theorem wr19 : ∀ w ∈ wsL_law_r19, w ∈ wsL_law := fun _ h => List.mem_append_left _ (List.mem_append_left _ (List.mem_append_left _ (List.mem_append_left _ (List.mem_append_left _ (List.mem_append_left _ (List.mem_append_left _ (List.mem_append_left _ (List.mem_append_left _ (List.mem_append_left _ (List.mem_append_left _ (List.mem_append_left _ (List.mem_append_left _ (List.mem_append_left _ (List.mem_append_right _ (List.mem_append_right _ (List.mem_append_right _ (List.mem_append_right _ (List.mem_append_right _ (List.mem_append_right _ (List.mem_append_right _ (List.mem_append_right _ (List.mem_append_right _ (List.mem_append_right _ (List.mem_append_right _ (List.mem_append_right _ (List.mem_append_right _ (List.mem_append_right _ (List.mem_append_right _ (List.mem_append_right _ (List.mem_append_right _ (List.mem_append_right _ (List.mem_append_left _ (h)))))))))))))))))))))))))))))))))
theorem wr20 : ∀ w ∈ wsL_law_r20, w ∈ wsL_law := fun _ h => List.mem_append_left _ (List.mem_append_left _ (List.mem_append_left _ (List.mem_append_left _ (List.mem_append_left _ (List.mem_append_left _ (List.mem_append_left _ (List.mem_append_left _ (List.mem_append_left _ (List.mem_append_left _ (List.mem_append_left _ (List.mem_append_left _ (List.mem_append_left _ (List.mem_append_left _ (List.mem_append_right _ (List.mem_append_right _ (List.mem_append_right _ (List.mem_append_right _ (List.mem_append_right _ (List.mem_append_right _ (List.mem_append_right _ (List.mem_append_right _ (List.mem_append_right _ (List.mem_append_right _ (List.mem_append_right _ (List.mem_append_right _ (List.mem_append_right _ (List.mem_append_right _ (List.mem_append_right _ (List.mem_append_right _ (List.mem_append_right _ (List.mem_append_right _ (List.mem_append_right _ (List.mem_append_left _ (h))))))))))))))))))))))))))))))))))
theorem wr21 : ∀ w ∈ wsL_law_r21, w ∈ wsL_law := fun _ h => List.mem_append_left _ (List.mem_append_left _ (List.mem_append_left _ (List.mem_append_left _ (List.mem_append_left _ (List.mem_append_left _ (List.mem_append_left _ (List.mem_append_left _ (List.mem_append_left _ (List.mem_append_left _ (List.mem_append_left _ (List.mem_append_left _ (List.mem_append_left _ (List.mem_append_left _ (List.mem_append_right _ (List.mem_append_right _ (List.mem_append_right _ (List.mem_append_right _ (List.mem_append_right _ (List.mem_append_right _ (List.mem_append_right _ (List.mem_append_right _ (List.mem_append_right _ (List.mem_append_right _ (List.mem_append_right _ (List.mem_append_right _ (List.mem_append_right _ (List.mem_append_right _ (List.mem_append_right _ (List.mem_append_right _ (List.mem_append_right _ (List.mem_append_right _ (List.mem_append_right _ (List.mem_append_right _ (List.mem_append_left _ (h)))))))))))))))))))))))))))))))))))
theorem wr22 : ∀ w ∈ wsL_law_r22, w ∈ wsL_law := fun _ h => List.mem_append_left _ (List.mem_append_left _ (List.mem_append_left _ (List.mem_append_left _ (List.mem_append_left _ (List.mem_append_left _ (List.mem_append_left _ (List.mem_append_left _ (List.mem_append_left _ (List.mem_append_left _ (List.mem_append_left _ (List.mem_append_left _ (List.mem_append_left _ (List.mem_append_left _ (List.mem_append_right _ (List.mem_append_right _ (List.mem_append_right _ (List.mem_append_right _ (List.mem_append_right _ (List.mem_append_right _ (List.mem_append_right _ (List.mem_append_right _ (List.mem_append_right _ (List.mem_append_right _ (List.mem_append_right _ (List.mem_append_right _ (List.mem_append_right _ (List.mem_append_right _ (List.mem_append_right _ (List.mem_append_right _ (List.mem_append_right _ (List.mem_append_right _ (List.mem_append_right _ (List.mem_append_right _ (List.mem_append_right _ (List.mem_append_left _ (h))))))))))))))))))))))))))))))))))))
theorem wr23 : ∀ w ∈ wsL_law_r23, w ∈ wsL_law := fun _ h => List.mem_append_left _ (List.mem_append_left _ (List.mem_append_left _ (List.mem_append_left _ (List.mem_append_left _ (List.mem_append_left _ (List.mem_append_left _ (List.mem_append_left _ (List.mem_append_left _ (List.mem_append_left _ (List.mem_append_left _ (List.mem_append_left _ (List.mem_append_left _ (List.mem_append_left _ (List.mem_append_right _ (List.mem_append_right _ (List.mem_append_right _ (List.mem_append_right _ (List.mem_append_right _ (List.mem_append_right _ (List.mem_append_right _ (List.mem_append_right _ (List.mem_append_right _ (List.mem_append_right _ (List.mem_append_right _ (List.mem_append_right _ (List.mem_append_right _ (List.mem_append_right _ (List.mem_append_right _ (List.mem_append_right _ (List.mem_append_right _ (List.mem_append_right _ (List.mem_append_right _ (List.mem_append_right _ (List.mem_append_right _ (List.mem_append_right _ (List.mem_append_left _ (h)))))))))))))))))))))))))))))))))))))
theorem wr24 : ∀ w ∈ wsL_law_r24, w ∈ wsL_law := fun _ h => List.mem_append_left _ (List.mem_append_left _ (List.mem_append_left _ (List.mem_append_left _ (List.mem_append_left _ (List.mem_append_left _ (List.mem_append_left _ (List.mem_append_left _ (List.mem_append_left _ (List.mem_append_left _ (List.mem_append_left _ (List.mem_append_left _ (List.mem_append_left _ (List.mem_append_left _ (List.mem_append_right _ (List.mem_append_right _ (List.mem_append_right _ (List.mem_append_right _ (List.mem_append_right _ (List.mem_append_right _ (List.mem_append_right _ (List.mem_append_right _ (List.mem_append_right _ (List.mem_append_right _ (List.mem_append_right _ (List.mem_append_right _ (List.mem_append_right _ (List.mem_append_right _ (List.mem_append_right _ (List.mem_append_right _ (List.mem_append_right _ (List.mem_append_right _ (List.mem_append_right _ (List.mem_append_right _ (List.mem_append_right _ (List.mem_append_right _ (List.mem_append_right _ (List.mem_append_left _ (h))))))))))))))))))))))))))))))))))))))
theorem wr25 : ∀ w ∈ wsL_law_r25, w ∈ wsL_law := fun _ h => List.mem_append_left _ (List.mem_append_left _ (List.mem_append_left _ (List.mem_append_left _ (List.mem_append_left _ (List.mem_append_left _ (List.mem_append_left _ (List.mem_append_left _ (List.mem_append_left _ (List.mem_append_left _ (List.mem_append_left _ (List.mem_append_left _ (List.mem_append_left _ (List.mem_append_left _ (List.mem_append_right _ (List.mem_append_right _ (List.mem_append_right _ (List.mem_append_right _ (List.mem_append_right _ (List.mem_append_right _ (List.mem_append_right _ (List.mem_append_right _ (List.mem_append_right _ (List.mem_append_right _ (List.mem_append_right _ (List.mem_append_right _ (List.mem_append_right _ (List.mem_append_right _ (List.mem_append_right _ (List.mem_append_right _ (List.mem_append_right _ (List.mem_append_right _ (List.mem_append_right _ (List.mem_append_right _ (List.mem_append_right _ (List.mem_append_right _ (List.mem_append_right _ (List.mem_append_right _ (List.mem_append_left _ (h)))))))))))))))))))))))))))))))))))))))
theorem wr26 : ∀ w ∈ wsL_law_r26, w ∈ wsL_law := fun _ h => List.mem_append_left _ (List.mem_append_left _ (List.mem_append_left _ (List.mem_append_left _ (List.mem_append_left _ (List.mem_append_left _ (List.mem_append_left _ (List.mem_append_left _ (List.mem_append_left _ (List.mem_append_left _ (List.mem_append_left _ (List.mem_append_left _ (List.mem_append_left _ (List.mem_append_left _ (List.mem_append_right _ (List.mem_append_right _ (List.mem_append_right _ (List.mem_append_right _ (List.mem_append_right _ (List.mem_append_right _ (List.mem_append_right _ (List.mem_append_right _ (List.mem_append_right _ (List.mem_append_right _ (List.mem_append_right _ (List.mem_append_right _ (List.mem_append_right _ (List.mem_append_right _ (List.mem_append_right _ (List.mem_append_right _ (List.mem_append_right _ (List.mem_append_right _ (List.mem_append_right _ (List.mem_append_right _ (List.mem_append_right _ (List.mem_append_right _ (List.mem_append_right _ (List.mem_append_right _ (List.mem_append_right _ (List.mem_append_left _ (h))))))))))))))))))))))))))))))))))))))))
theorem wr27 : ∀ w ∈ wsL_law_r27, w ∈ wsL_law := fun _ h => List.mem_append_left _ (List.mem_append_left _ (List.mem_append_left _ (List.mem_append_left _ (List.mem_append_left _ (List.mem_append_left _ (List.mem_append_left _ (List.mem_append_left _ (List.mem_append_left _ (List.mem_append_left _ (List.mem_append_left _ (List.mem_append_left _ (List.mem_append_left _ (List.mem_append_left _ (List.mem_append_right _ (List.mem_append_right _ (List.mem_append_right _ (List.mem_append_right _ (List.mem_append_right _ (List.mem_append_right _ (List.mem_append_right _ (List.mem_append_right _ (List.mem_append_right _ (List.mem_append_right _ (List.mem_append_right _ (List.mem_append_right _ (List.mem_append_right _ (List.mem_append_right _ (List.mem_append_right _ (List.mem_append_right _ (List.mem_append_right _ (List.mem_append_right _ (List.mem_append_right _ (List.mem_append_right _ (List.mem_append_right _ (List.mem_append_right _ (List.mem_append_right _ (List.mem_append_right _ (List.mem_append_right _ (List.mem_append_right _ (List.mem_append_left _ (h)))))))))))))))))))))))))))))))))))))))))
theorem wr28 : ∀ w ∈ wsL_law_r28, w ∈ wsL_law := fun _ h => List.mem_append_left _ (List.mem_append_left _ (List.mem_append_left _ (List.mem_append_left _ (List.mem_append_left _ (List.mem_append_left _ (List.mem_append_left _ (List.mem_append_left _ (List.mem_append_left _ (List.mem_append_left _ (List.mem_append_left _ (List.mem_append_left _ (List.mem_append_left _ (List.mem_append_left _ (List.mem_append_right _ (List.mem_append_right _ (List.mem_append_right _ (List.mem_append_right _ (List.mem_append_right _ (List.mem_append_right _ (List.mem_append_right _ (List.mem_append_right _ (List.mem_append_right _ (List.mem_append_right _ (List.mem_append_right _ (List.mem_append_right _ (List.mem_append_right _ (List.mem_append_right _ (List.mem_append_right _ (List.mem_append_right _ (List.mem_append_right _ (List.mem_append_right _ (List.mem_append_right _ (List.mem_append_right _ (List.mem_append_right _ (List.mem_append_right _ (List.mem_append_right _ (List.mem_append_right _ (List.mem_append_right _ (List.mem_append_right _ (List.mem_append_right _ (List.mem_append_left _ (h))))))))))))))))))))))))))))))))))))))))))
theorem wr29 : ∀ w ∈ wsL_law_r29, w ∈ wsL_law := fun _ h => List.mem_append_left _ (List.mem_append_left _ (List.mem_append_left _ (List.mem_append_left _ (List.mem_append_left _ (List.mem_append_left _ (List.mem_append_left _ (List.mem_append_left _ (List.mem_append_left _ (List.mem_append_left _ (List.mem_append_left _ (List.mem_append_left _ (List.mem_append_left _ (List.mem_append_left _ (List.mem_append_right _ (List.mem_append_right _ (List.mem_append_right _ (List.mem_append_right _ (List.mem_append_right _ (List.mem_append_right _ (List.mem_append_right _ (List.mem_append_right _ (List.mem_append_right _ (List.mem_append_right _ (List.mem_append_right _ (List.mem_append_right _ (List.mem_append_right _ (List.mem_append_right _ (List.mem_append_right _ (List.mem_append_right _ (List.mem_append_right _ (List.mem_append_right _ (List.mem_append_right _ (List.mem_append_right _ (List.mem_append_right _ (List.mem_append_right _ (List.mem_append_right _ (List.mem_append_right _ (List.mem_append_right _ (List.mem_append_right _ (List.mem_append_right _ (List.mem_append_right _ (List.mem_append_left _ (h)))))))))))))))))))))))))))))))))))))))))))
theorem wr30 : ∀ w ∈ wsL_law_r30, w ∈ wsL_law := fun _ h => List.mem_append_left _ (List.mem_append_left _ (List.mem_append_left _ (List.mem_append_left _ (List.mem_append_left _ (List.mem_append_left _ (List.mem_append_left _ (List.mem_append_left _ (List.mem_append_left _ (List.mem_append_left _ (List.mem_append_left _ (List.mem_append_left _ (List.mem_append_left _ (List.mem_append_left _ (List.mem_append_right _ (List.mem_append_right _ (List.mem_append_right _ (List.mem_append_right _ (List.mem_append_right _ (List.mem_append_right _ (List.mem_append_right _ (List.mem_append_right _ (List.mem_append_right _ (List.mem_append_right _ (List.mem_append_right _ (List.mem_append_right _ (List.mem_append_right _ (List.mem_append_right _ (List.mem_append_right _ (List.mem_append_right _ (List.mem_append_right _ (List.mem_append_right _ (List.mem_append_right _ (List.mem_append_right _ (List.mem_append_right _ (List.mem_append_right _ (List.mem_append_right _ (List.mem_append_right _ (List.mem_append_right _ (List.mem_append_right _ (List.mem_append_right _ (List.mem_append_right _ (List.mem_append_right _ (List.mem_append_left _ (h))))))))))))))))))))))))))))))))))))))))))))
theorem wr31 : ∀ w ∈ wsL_law_r31, w ∈ wsL_law := fun _ h => List.mem_append_left _ (List.mem_append_left _ (List.mem_append_left _ (List.mem_append_left _ (List.mem_append_left _ (List.mem_append_left _ (List.mem_append_left _ (List.mem_append_left _ (List.mem_append_left _ (List.mem_append_left _ (List.mem_append_left _ (List.mem_append_left _ (List.mem_append_left _ (List.mem_append_left _ (List.mem_append_right _ (List.mem_append_right _ (List.mem_append_right _ (List.mem_append_right _ (List.mem_append_right _ (List.mem_append_right _ (List.mem_append_right _ (List.mem_append_right _ (List.mem_append_right _ (List.mem_append_right _ (List.mem_append_right _ (List.mem_append_right _ (List.mem_append_right _ (List.mem_append_right _ (List.mem_append_right _ (List.mem_append_right _ (List.mem_append_right _ (List.mem_append_right _ (List.mem_append_right _ (List.mem_append_right _ (List.mem_append_right _ (List.mem_append_right _ (List.mem_append_right _ (List.mem_append_right _ (List.mem_append_right _ (List.mem_append_right _ (List.mem_append_right _ (List.mem_append_right _ (List.mem_append_right _ (List.mem_append_right _ (List.mem_append_left _ (h)))))))))))))))))))))))))))))))))))))))))))))
theorem wr32 : ∀ w ∈ wsL_law_r32, w ∈ wsL_law := fun _ h => List.mem_append_left _ (List.mem_append_left _ (List.mem_append_left _ (List.mem_append_left _ (List.mem_append_left _ (List.mem_append_left _ (List.mem_append_left _ (List.mem_append_left _ (List.mem_append_left _ (List.mem_append_left _ (List.mem_append_left _ (List.mem_append_left _ (List.mem_append_left _ (List.mem_append_left _ (List.mem_append_right _ (List.mem_append_right _ (List.mem_append_right _ (List.mem_append_right _ (List.mem_append_right _ (List.mem_append_right _ (List.mem_append_right _ (List.mem_append_right _ (List.mem_append_right _ (List.mem_append_right _ (List.mem_append_right _ (List.mem_append_right _ (List.mem_append_right _ (List.mem_append_right _ (List.mem_append_right _ (List.mem_append_right _ (List.mem_append_right _ (List.mem_append_right _ (List.mem_append_right _ (List.mem_append_right _ (List.mem_append_right _ (List.mem_append_right _ (List.mem_append_right _ (List.mem_append_right _ (List.mem_append_right _ (List.mem_append_right _ (List.mem_append_right _ (List.mem_append_right _ (List.mem_append_right _ (List.mem_append_right _ (List.mem_append_right _ (List.mem_append_left _ (h))))))))))))))))))))))))))))))))))))))))))))))
theorem wr33 : ∀ w ∈ wsL_law_r33, w ∈ wsL_law := fun _ h => List.mem_append_left _ (List.mem_append_left _ (List.mem_append_left _ (List.mem_append_left _ (List.mem_append_left _ (List.mem_append_left _ (List.mem_append_left _ (List.mem_append_left _ (List.mem_append_left _ (List.mem_append_left _ (List.mem_append_left _ (List.mem_append_left _ (List.mem_append_left _ (List.mem_append_left _ (List.mem_append_right _ (List.mem_append_right _ (List.mem_append_right _ (List.mem_append_right _ (List.mem_append_right _ (List.mem_append_right _ (List.mem_append_right _ (List.mem_append_right _ (List.mem_append_right _ (List.mem_append_right _ (List.mem_append_right _ (List.mem_append_right _ (List.mem_append_right _ (List.mem_append_right _ (List.mem_append_right _ (List.mem_append_right _ (List.mem_append_right _ (List.mem_append_right _ (List.mem_append_right _ (List.mem_append_right _ (List.mem_append_right _ (List.mem_append_right _ (List.mem_append_right _ (List.mem_append_right _ (List.mem_append_right _ (List.mem_append_right _ (List.mem_append_right _ (List.mem_append_right _ (List.mem_append_right _ (List.mem_append_right _ (List.mem_append_right _ (List.mem_append_right _ (List.mem_append_left _ (h)))))))))))))))))))))))))))))))))))))))))))))))
theorem wr34 : ∀ w ∈ wsL_law_r34, w ∈ wsL_law := fun _ h => List.mem_append_left _ (List.mem_append_left _ (List.mem_append_left _ (List.mem_append_left _ (List.mem_append_left _ (List.mem_append_left _ (List.mem_append_left _ (List.mem_append_left _ (List.mem_append_left _ (List.mem_append_left _ (List.mem_append_left _ (List.mem_append_left _ (List.mem_append_left _ (List.mem_append_left _ (List.mem_append_right _ (List.mem_append_right _ (List.mem_append_right _ (List.mem_append_right _ (List.mem_append_right _ (List.mem_append_right _ (List.mem_append_right _ (List.mem_append_right _ (List.mem_append_right _ (List.mem_append_right _ (List.mem_append_right _ (List.mem_append_right _ (List.mem_append_right _ (List.mem_append_right _ (List.mem_append_right _ (List.mem_append_right _ (List.mem_append_right _ (List.mem_append_right _ (List.mem_append_right _ (List.mem_append_right _ (List.mem_append_right _ (List.mem_append_right _ (List.mem_append_right _ (List.mem_append_right _ (List.mem_append_right _ (List.mem_append_right _ (List.mem_append_right _ (List.mem_append_right _ (List.mem_append_right _ (List.mem_append_right _ (List.mem_append_right _ (List.mem_append_right _ (List.mem_append_right _ (List.mem_append_left _ (h))))))))))))))))))))))))))))))))))))))))))))))))
theorem wr35 : ∀ w ∈ wsL_law_r35, w ∈ wsL_law := fun _ h => List.mem_append_left _ (List.mem_append_left _ (List.mem_append_left _ (List.mem_append_left _ (List.mem_append_left _ (List.mem_append_left _ (List.mem_append_left _ (List.mem_append_left _ (List.mem_append_left _ (List.mem_append_left _ (List.mem_append_left _ (List.mem_append_left _ (List.mem_append_left _ (List.mem_append_left _ (List.mem_append_right _ (List.mem_append_right _ (List.mem_append_right _ (List.mem_append_right _ (List.mem_append_right _ (List.mem_append_right _ (List.mem_append_right _ (List.mem_append_right _ (List.mem_append_right _ (List.mem_append_right _ (List.mem_append_right _ (List.mem_append_right _ (List.mem_append_right _ (List.mem_append_right _ (List.mem_append_right _ (List.mem_append_right _ (List.mem_append_right _ (List.mem_append_right _ (List.mem_append_right _ (List.mem_append_right _ (List.mem_append_right _ (List.mem_append_right _ (List.mem_append_right _ (List.mem_append_right _ (List.mem_append_right _ (List.mem_append_right _ (List.mem_append_right _ (List.mem_append_right _ (List.mem_append_right _ (List.mem_append_right _ (List.mem_append_right _ (List.mem_append_right _ (List.mem_append_right _ (List.mem_append_right _ (List.mem_append_left _ (h)))))))))))))))))))))))))))))))))))))))))))))))))
theorem wr36 : ∀ w ∈ wsL_law_r36, w ∈ wsL_law := fun _ h => List.mem_append_left _ (List.mem_append_left _ (List.mem_append_left _ (List.mem_append_left _ (List.mem_append_left _ (List.mem_append_left _ (List.mem_append_left _ (List.mem_append_left _ (List.mem_append_left _ (List.mem_append_left _ (List.mem_append_left _ (List.mem_append_left _ (List.mem_append_left _ (List.mem_append_left _ (List.mem_append_right _ (List.mem_append_right _ (List.mem_append_right _ (List.mem_append_right _ (List.mem_append_right _ (List.mem_append_right _ (List.mem_append_right _ (List.mem_append_right _ (List.mem_append_right _ (List.mem_append_right _ (List.mem_append_right _ (List.mem_append_right _ (List.mem_append_right _ (List.mem_append_right _ (List.mem_append_right _ (List.mem_append_right _ (List.mem_append_right _ (List.mem_append_right _ (List.mem_append_right _ (List.mem_append_right _ (List.mem_append_right _ (List.mem_append_right _ (List.mem_append_right _ (List.mem_append_right _ (List.mem_append_right _ (List.mem_append_right _ (List.mem_append_right _ (List.mem_append_right _ (List.mem_append_right _ (List.mem_append_right _ (List.mem_append_right _ (List.mem_append_right _ (List.mem_append_right _ (List.mem_append_right _ (List.mem_append_right _ (List.mem_append_left _ (h))))))))))))))))))))))))))))))))))))))))))))))))))
theorem wr37 : ∀ w ∈ wsL_law_r37, w ∈ wsL_law := fun _ h => List.mem_append_left _ (List.mem_append_left _ (List.mem_append_left _ (List.mem_append_left _ (List.mem_append_left _ (List.mem_append_left _ (List.mem_append_left _ (List.mem_append_left _ (List.mem_append_left _ (List.mem_append_left _ (List.mem_append_left _ (List.mem_append_left _ (List.mem_append_left _ (List.mem_append_left _ (List.mem_append_right _ (List.mem_append_right _ (List.mem_append_right _ (List.mem_append_right _ (List.mem_append_right _ (List.mem_append_right _ (List.mem_append_right _ (List.mem_append_right _ (List.mem_append_right _ (List.mem_append_right _ (List.mem_append_right _ (List.mem_append_right _ (List.mem_append_right _ (List.mem_append_right _ (List.mem_append_right _ (List.mem_append_right _ (List.mem_append_right _ (List.mem_append_right _ (List.mem_append_right _ (List.mem_append_right _ (List.mem_append_right _ (List.mem_append_right _ (List.mem_append_right _ (List.mem_append_right _ (List.mem_append_right _ (List.mem_append_right _ (List.mem_append_right _ (List.mem_append_right _ (List.mem_append_right _ (List.mem_append_right _ (List.mem_append_right _ (List.mem_append_right _ (List.mem_append_right _ (List.mem_append_right _ (List.mem_append_right _ (List.mem_append_right _ (List.mem_append_left _ (h)))))))))))))))))))))))))))))))))))))))))))))))))))
theorem wr38 : ∀ w ∈ wsL_law_r38, w ∈ wsL_law := fun _ h => List.mem_append_left _ (List.mem_append_left _ (List.mem_append_left _ (List.mem_append_left _ (List.mem_append_left _ (List.mem_append_left _ (List.mem_append_left _ (List.mem_append_left _ (List.mem_append_left _ (List.mem_append_left _ (List.mem_append_left _ (List.mem_append_left _ (List.mem_append_left _ (List.mem_append_left _ (List.mem_append_right _ (List.mem_append_right _ (List.mem_append_right _ (List.mem_append_right _ (List.mem_append_right _ (List.mem_append_right _ (List.mem_append_right _ (List.mem_append_right _ (List.mem_append_right _ (List.mem_append_right _ (List.mem_append_right _ (List.mem_append_right _ (List.mem_append_right _ (List.mem_append_right _ (List.mem_append_right _ (List.mem_append_right _ (List.mem_append_right _ (List.mem_append_right _ (List.mem_append_right _ (List.mem_append_right _ (List.mem_append_right _ (List.mem_append_right _ (List.mem_append_right _ (List.mem_append_right _ (List.mem_append_right _ (List.mem_append_right _ (List.mem_append_right _ (List.mem_append_right _ (List.mem_append_right _ (List.mem_append_right _ (List.mem_append_right _ (List.mem_append_right _ (List.mem_append_right _ (List.mem_append_right _ (List.mem_append_right _ (List.mem_append_right _ (List.mem_append_right _ (List.mem_append_left _ (h))))))))))))))))))))))))))))))))))))))))))))))))))))
theorem wr39 : ∀ w ∈ wsL_law_r39, w ∈ wsL_law := fun _ h => List.mem_append_left _ (List.mem_append_left _ (List.mem_append_left _ (List.mem_append_left _ (List.mem_append_left _ (List.mem_append_left _ (List.mem_append_left _ (List.mem_append_left _ (List.mem_append_left _ (List.mem_append_left _ (List.mem_append_left _ (List.mem_append_left _ (List.mem_append_left _ (List.mem_append_left _ (List.mem_append_right _ (List.mem_append_right _ (List.mem_append_right _ (List.mem_append_right _ (List.mem_append_right _ (List.mem_append_right _ (List.mem_append_right _ (List.mem_append_right _ (List.mem_append_right _ (List.mem_append_right _ (List.mem_append_right _ (List.mem_append_right _ (List.mem_append_right _ (List.mem_append_right _ (List.mem_append_right _ (List.mem_append_right _ (List.mem_append_right _ (List.mem_append_right _ (List.mem_append_right _ (List.mem_append_right _ (List.mem_append_right _ (List.mem_append_right _ (List.mem_append_right _ (List.mem_append_right _ (List.mem_append_right _ (List.mem_append_right _ (List.mem_append_right _ (List.mem_append_right _ (List.mem_append_right _ (List.mem_append_right _ (List.mem_append_right _ (List.mem_append_right _ (List.mem_append_right _ (List.mem_append_right _ (List.mem_append_right _ (List.mem_append_right _ (List.mem_append_right _ (List.mem_append_right _ (List.mem_append_left _ (h)))))))))))))))))))))))))))))))))))))))))))))))))))))
theorem wr40 : ∀ w ∈ wsL_law_r40, w ∈ wsL_law := fun _ h => List.mem_append_left _ (List.mem_append_left _ (List.mem_append_left _ (List.mem_append_left _ (List.mem_append_left _ (List.mem_append_left _ (List.mem_append_left _ (List.mem_append_left _ (List.mem_append_left _ (List.mem_append_left _ (List.mem_append_left _ (List.mem_append_left _ (List.mem_append_left _ (List.mem_append_left _ (List.mem_append_right _ (List.mem_append_right _ (List.mem_append_right _ (List.mem_append_right _ (List.mem_append_right _ (List.mem_append_right _ (List.mem_append_right _ (List.mem_append_right _ (List.mem_append_right _ (List.mem_append_right _ (List.mem_append_right _ (List.mem_append_right _ (List.mem_append_right _ (List.mem_append_right _ (List.mem_append_right _ (List.mem_append_right _ (List.mem_append_right _ (List.mem_append_right _ (List.mem_append_right _ (List.mem_append_right _ (List.mem_append_right _ (List.mem_append_right _ (List.mem_append_right _ (List.mem_append_right _ (List.mem_append_right _ (List.mem_append_right _ (List.mem_append_right _ (List.mem_append_right _ (List.mem_append_right _ (List.mem_append_right _ (List.mem_append_right _ (List.mem_append_right _ (List.mem_append_right _ (List.mem_append_right _ (List.mem_append_right _ (List.mem_append_right _ (List.mem_append_right _ (List.mem_append_right _ (List.mem_append_right _ (List.mem_append_left _ (h))))))))))))))))))))))))))))))))))))))))))))))))))))))
theorem wr41 : ∀ w ∈ wsL_law_r41, w ∈ wsL_law := fun _ h => List.mem_append_left _ (List.mem_append_left _ (List.mem_append_left _ (List.mem_append_left _ (List.mem_append_left _ (List.mem_append_left _ (List.mem_append_left _ (List.mem_append_left _ (List.mem_append_left _ (List.mem_append_left _ (List.mem_append_left _ (List.mem_append_left _ (List.mem_append_left _ (List.mem_append_left _ (List.mem_append_right _ (List.mem_append_right _ (List.mem_append_right _ (List.mem_append_right _ (List.mem_append_right _ (List.mem_append_right _ (List.mem_append_right _ (List.mem_append_right _ (List.mem_append_right _ (List.mem_append_right _ (List.mem_append_right _ (List.mem_append_right _ (List.mem_append_right _ (List.mem_append_right _ (List.mem_append_right _ (List.mem_append_right _ (List.mem_append_right _ (List.mem_append_right _ (List.mem_append_right _ (List.mem_append_right _ (List.mem_append_right _ (List.mem_append_right _ (List.mem_append_right _ (List.mem_append_right _ (List.mem_append_right _ (List.mem_append_right _ (List.mem_append_right _ (List.mem_append_right _ (List.mem_append_right _ (List.mem_append_right _ (List.mem_append_right _ (List.mem_append_right _ (List.mem_append_right _ (List.mem_append_right _ (List.mem_append_right _ (List.mem_append_right _ (List.mem_append_right _ (List.mem_append_right _ (List.mem_append_right _ (List.mem_append_right _ (List.mem_append_left _ (h)))))))))))))))))))))))))))))))))))))))))))))))))))))))
theorem wr42 : ∀ w ∈ wsL_law_r42, w ∈ wsL_law := fun _ h => List.mem_append_left _ (List.mem_append_left _ (List.mem_append_left _ (List.mem_append_left _ (List.mem_append_left _ (List.mem_append_left _ (List.mem_append_left _ (List.mem_append_left _ (List.mem_append_left _ (List.mem_append_left _ (List.mem_append_left _ (List.mem_append_left _ (List.mem_append_left _ (List.mem_append_left _ (List.mem_append_right _ (List.mem_append_right _ (List.mem_append_right _ (List.mem_append_right _ (List.mem_append_right _ (List.mem_append_right _ (List.mem_append_right _ (List.mem_append_right _ (List.mem_append_right _ (List.mem_append_right _ (List.mem_append_right _ (List.mem_append_right _ (List.mem_append_right _ (List.mem_append_right _ (List.mem_append_right _ (List.mem_append_right _ (List.mem_append_right _ (List.mem_append_right _ (List.mem_append_right _ (List.mem_append_right _ (List.mem_append_right _ (List.mem_append_right _ (List.mem_append_right _ (List.mem_append_right _ (List.mem_append_right _ (List.mem_append_right _ (List.mem_append_right _ (List.mem_append_right _ (List.mem_append_right _ (List.mem_append_right _ (List.mem_append_right _ (List.mem_append_right _ (List.mem_append_right _ (List.mem_append_right _ (List.mem_append_right _ (List.mem_append_right _ (List.mem_append_right _ (List.mem_append_right _ (List.mem_append_right _ (List.mem_append_right _ (List.mem_append_right _ (List.mem_append_left _ (h))))))))))))))))))))))))))))))))))))))))))))))))))))))))
theorem wr43 : ∀ w ∈ wsL_law_r43, w ∈ wsL_law := fun _ h => List.mem_append_left _ (List.mem_append_left _ (List.mem_append_left _ (List.mem_append_left _ (List.mem_append_left _ (List.mem_append_left _ (List.mem_append_left _ (List.mem_append_left _ (List.mem_append_left _ (List.mem_append_left _ (List.mem_append_left _ (List.mem_append_left _ (List.mem_append_left _ (List.mem_append_left _ (List.mem_append_right _ (List.mem_append_right _ (List.mem_append_right _ (List.mem_append_right _ (List.mem_append_right _ (List.mem_append_right _ (List.mem_append_right _ (List.mem_append_right _ (List.mem_append_right _ (List.mem_append_right _ (List.mem_append_right _ (List.mem_append_right _ (List.mem_append_right _ (List.mem_append_right _ (List.mem_append_right _ (List.mem_append_right _ (List.mem_append_right _ (List.mem_append_right _ (List.mem_append_right _ (List.mem_append_right _ (List.mem_append_right _ (List.mem_append_right _ (List.mem_append_right _ (List.mem_append_right _ (List.mem_append_right _ (List.mem_append_right _ (List.mem_append_right _ (List.mem_append_right _ (List.mem_append_right _ (List.mem_append_right _ (List.mem_append_right _ (List.mem_append_right _ (List.mem_append_right _ (List.mem_append_right _ (List.mem_append_right _ (List.mem_append_right _ (List.mem_append_right _ (List.mem_append_right _ (List.mem_append_right _ (List.mem_append_right _ (List.mem_append_right _ (List.mem_append_right _ (List.mem_append_left _ (h)))))))))))))))))))))))))))))))))))))))))))))))))))))))))
theorem wr44 : ∀ w ∈ wsL_law_r44, w ∈ wsL_law := fun _ h => List.mem_append_left _ (List.mem_append_left _ (List.mem_append_left _ (List.mem_append_left _ (List.mem_append_left _ (List.mem_append_left _ (List.mem_append_left _ (List.mem_append_left _ (List.mem_append_left _ (List.mem_append_left _ (List.mem_append_left _ (List.mem_append_left _ (List.mem_append_left _ (List.mem_append_left _ (List.mem_append_right _ (List.mem_append_right _ (List.mem_append_right _ (List.mem_append_right _ (List.mem_append_right _ (List.mem_append_right _ (List.mem_append_right _ (List.mem_append_right _ (List.mem_append_right _ (List.mem_append_right _ (List.mem_append_right _ (List.mem_append_right _ (List.mem_append_right _ (List.mem_append_right _ (List.mem_append_right _ (List.mem_append_right _ (List.mem_append_right _ (List.mem_append_right _ (List.mem_append_right _ (List.mem_append_right _ (List.mem_append_right _ (List.mem_append_right _ (List.mem_append_right _ (List.mem_append_right _ (List.mem_append_right _ (List.mem_append_right _ (List.mem_append_right _ (List.mem_append_right _ (List.mem_append_right _ (List.mem_append_right _ (List.mem_append_right _ (List.mem_append_right _ (List.mem_append_right _ (List.mem_append_right _ (List.mem_append_right _ (List.mem_append_right _ (List.mem_append_right _ (List.mem_append_right _ (List.mem_append_right _ (List.mem_append_right _ (List.mem_append_right _ (List.mem_append_right _ (List.mem_append_right _ (List.mem_append_left _ (h))))))))))))))))))))))))))))))))))))))))))))))))))))))))))
theorem wr45 : ∀ w ∈ wsL_law_r45, w ∈ wsL_law := fun _ h => List.mem_append_left _ (List.mem_append_left _ (List.mem_append_left _ (List.mem_append_left _ (List.mem_append_left _ (List.mem_append_left _ (List.mem_append_left _ (List.mem_append_left _ (List.mem_append_left _ (List.mem_append_left _ (List.mem_append_left _ (List.mem_append_left _ (List.mem_append_left _ (List.mem_append_left _ (List.mem_append_right _ (List.mem_append_right _ (List.mem_append_right _ (List.mem_append_right _ (List.mem_append_right _ (List.mem_append_right _ (List.mem_append_right _ (List.mem_append_right _ (List.mem_append_right _ (List.mem_append_right _ (List.mem_append_right _ (List.mem_append_right _ (List.mem_append_right _ (List.mem_append_right _ (List.mem_append_right _ (List.mem_append_right _ (List.mem_append_right _ (List.mem_append_right _ (List.mem_append_right _ (List.mem_append_right _ (List.mem_append_right _ (List.mem_append_right _ (List.mem_append_right _ (List.mem_append_right _ (List.mem_append_right _ (List.mem_append_right _ (List.mem_append_right _ (List.mem_append_right _ (List.mem_append_right _ (List.mem_append_right _ (List.mem_append_right _ (List.mem_append_right _ (List.mem_append_right _ (List.mem_append_right _ (List.mem_append_right _ (List.mem_append_right _ (List.mem_append_right _ (List.mem_append_right _ (List.mem_append_right _ (List.mem_append_right _ (List.mem_append_right _ (List.mem_append_right _ (List.mem_append_right _ (List.mem_append_right _ (List.mem_append_left _ (h)))))))))))))))))))))))))))))))))))))))))))))))))))))))))))
theorem wr46 : ∀ w ∈ wsL_law_r46, w ∈ wsL_law := fun _ h => List.mem_append_left _ (List.mem_append_left _ (List.mem_append_left _ (List.mem_append_left _ (List.mem_append_left _ (List.mem_append_left _ (List.mem_append_left _ (List.mem_append_left _ (List.mem_append_left _ (List.mem_append_left _ (List.mem_append_left _ (List.mem_append_left _ (List.mem_append_left _ (List.mem_append_left _ (List.mem_append_right _ (List.mem_append_right _ (List.mem_append_right _ (List.mem_append_right _ (List.mem_append_right _ (List.mem_append_right _ (List.mem_append_right _ (List.mem_append_right _ (List.mem_append_right _ (List.mem_append_right _ (List.mem_append_right _ (List.mem_append_right _ (List.mem_append_right _ (List.mem_append_right _ (List.mem_append_right _ (List.mem_append_right _ (List.mem_append_right _ (List.mem_append_right _ (List.mem_append_right _ (List.mem_append_right _ (List.mem_append_right _ (List.mem_append_right _ (List.mem_append_right _ (List.mem_append_right _ (List.mem_append_right _ (List.mem_append_right _ (List.mem_append_right _ (List.mem_append_right _ (List.mem_append_right _ (List.mem_append_right _ (List.mem_append_right _ (List.mem_append_right _ (List.mem_append_right _ (List.mem_append_right _ (List.mem_append_right _ (List.mem_append_right _ (List.mem_append_right _ (List.mem_append_right _ (List.mem_append_right _ (List.mem_append_right _ (List.mem_append_right _ (List.mem_append_right _ (List.mem_append_right _ (List.mem_append_right _ (List.mem_append_right _ (List.mem_append_left _ (h))))))))))))))))))))))))))))))))))))))))))))))))))))))))))))
theorem wr47 : ∀ w ∈ wsL_law_r47, w ∈ wsL_law := fun _ h => List.mem_append_left _ (List.mem_append_left _ (List.mem_append_left _ (List.mem_append_left _ (List.mem_append_left _ (List.mem_append_left _ (List.mem_append_left _ (List.mem_append_left _ (List.mem_append_left _ (List.mem_append_left _ (List.mem_append_left _ (List.mem_append_left _ (List.mem_append_left _ (List.mem_append_left _ (List.mem_append_right _ (List.mem_append_right _ (List.mem_append_right _ (List.mem_append_right _ (List.mem_append_right _ (List.mem_append_right _ (List.mem_append_right _ (List.mem_append_right _ (List.mem_append_right _ (List.mem_append_right _ (List.mem_append_right _ (List.mem_append_right _ (List.mem_append_right _ (List.mem_append_right _ (List.mem_append_right _ (List.mem_append_right _ (List.mem_append_right _ (List.mem_append_right _ (List.mem_append_right _ (List.mem_append_right _ (List.mem_append_right _ (List.mem_append_right _ (List.mem_append_right _ (List.mem_append_right _ (List.mem_append_right _ (List.mem_append_right _ (List.mem_append_right _ (List.mem_append_right _ (List.mem_append_right _ (List.mem_append_right _ (List.mem_append_right _ (List.mem_append_right _ (List.mem_append_right _ (List.mem_append_right _ (List.mem_append_right _ (List.mem_append_right _ (List.mem_append_right _ (List.mem_append_right _ (List.mem_append_right _ (List.mem_append_right _ (List.mem_append_right _ (List.mem_append_right _ (List.mem_append_right _ (List.mem_append_right _ (List.mem_append_right _ (List.mem_append_right _ (h))))))))))))))))))))))))))))))))))))))))))))))))))))))))))))
theorem am_lk {α : Type} : ∀ (l : List (Nat × α)) (k : Nat) (b : α), l.lookup k = some b → (k, b) ∈ l
  | [], _, _, h => by simp at h
  | (a, x) :: l, k, b, h => by
    rw [List.lookup_cons] at h
    split at h
    · rename_i q
      have e : k = a := by simpa using q
      cases h
      subst e
      exact List.mem_cons_self
    · exact List.mem_cons_of_mem _ (am_lk l k b h)
def am_nests : List (String × Nat × MethodName × String) := [("CardTabulator", 11, yX8_init, "CardTabulator"), ("CardTabulator$State", 11, yX3_init, "CardTabulator"), ("CardTabulator$State", 27, yX5_init, "CardTabulator"), ("CardTabulator", 18, yX2_init, "CardTabulator"), ("CardTabulator", 29, yX9_init, "CardTabulator"), ("CardTabulator", 36, yX7_init, "CardTabulator"), ("CardTabulator", 43, yX4_init, "CardTabulator"), ("CardTabulator$Printer", 11, yX10_init, "CardTabulator"), ("CardTabulator$SecondWay", 17, yX10_init, "CardTabulator"), ("CardTabulator", 64, yX10_init, "CardTabulator"), ("CardTabulator$History", 38, yX8_init, "CardTabulator"), ("CardTabulator$Layout", 18, yX11_isField, "CardTabulator"), ("CardTabulator$State", 40, yX11_isSetting, "CardTabulator"), ("CardTabulator$Text", 67, yX11_isWithin, "CardTabulator"), ("CardTabulator$Card", 26, yX11_isColumn, "CardTabulator"), ("CardTabulator$Sorter", 65, yX11_isWithin, "CardTabulator"), ("CardTabulator$Report", 43, yX11_isWithin, "CardTabulator")]
def am_FP (c : Nat) (e : Nat × Nat × Nat) : Prop := ∃ r : vw_C, vwCl[e.2.1]? = some r ∧ e.2.2 < r.2.2 ∧ Cond.fieldLink (am_cn c) e.1 (r.2.1 e.2.2).1 (r.2.1 e.2.2).2.1 (r.2.1 e.2.2).2.2.1 ∈ wsL_law
def am_NP (c : Nat) (e : Nat × Nat) : Prop := ∃ r : vw_C, vwCl[e.2]? = some r ∧ Cond.classLink (am_cn c) e.1 r.1 ∈ wsL_law ∧ Cond.instantiable r.1 r.2.2 ∈ wsL_law ∧ Cond.initialized r.1 ∈ wsL_law
def am_AP (c : Nat) (e : Nat × Nat) : Prop := (0 < e.2 ∧ e.2 < 4) ∧ Cond.classLink (am_cn c) e.1 (am_cn (am_comp e.2)) ∈ wsL_law
def am_SP (c : Nat) (e : Nat × Nat) : Prop := (e.2 = 0 → Cond.methodLink (am_cn c) e.1 objectInit ∈ wsL_law) ∧ (e.2 = 1 → Cond.methodLink (am_cn c) e.1 arraycopyName ∈ wsL_law) ∧ (e.2 = 2 → Cond.methodLink (am_cn c) e.1 Lib.Math.min.name ∈ wsL_law) ∧ (e.2 = 3 → Cond.methodLink (am_cn c) e.1 Lib.Math.abs.name ∈ wsL_law)
def am_MO (mj : am_I) : Prop := Cond.code mj.2.2.1 mj.2.1 mj.2.2.2.1 mj.2.2.2.2.1 ∈ wsL_law ∧ plainFor mj.2.2.1 = true ∧ (mj.2.2.1.cls ≠ "java/lang/invoke/MethodHandle" ∧ mj.2.2.1.cls ≠ "java/lang/invoke/VarHandle") ∧ Cond.initialized mj.2.2.1.cls ∈ wsL_law ∧ am_cn mj.1 = mj.2.2.1.cls
def am_CP (c : Nat) (e : Nat × Nat × Nat × am_I) : Prop := am_MO e.2.2.2 ∧ (e.2.1 ≤ 2 → Cond.methodLink (am_cn c) e.1 e.2.2.2.2.2.1 ∈ wsL_law) ∧ (4 ≤ e.2.1 → (am_cn c, e.1, e.2.2.2.2.2.1, "CardTabulator") ∈ am_nests) ∧ (e.2.1 ≠ 1 ∧ e.2.1 ≠ 4 → Cond.instanceMethod e.2.2.2.2.2.1 ∈ wsL_law) ∧ (e.2.1 = 0 → Cond.selects e.2.2.2.2.2.1.cls e.2.2.2.2.2.1 e.2.2.2.2.2.1 ∈ wsL_law) ∧ (e.2.1 = 1 ∨ e.2.1 = 4 → Cond.static e.2.2.2.2.2.1 ∈ wsL_law) ∧ (e.2.1 = 2 ∨ e.2.1 = 5 → e.2.2.2.2.2.1.name = "<init>" ∧ e.2.2.2.2.2.2.2.1 = none) ∧ (parseMethodDescriptor e.2.2.2.2.2.1.desc).map (fun d => d.parameters.length) = some e.2.2.1
set_option maxRecDepth 100000 in
theorem am_fldP0 : ∀ e ∈ (am_fldL 0), am_FP 0 e := List.forall_mem_cons.mpr ⟨⟨_, rfl, by decide, wr4 _ (List.mem_of_getElem? (i := 8) rfl)⟩, List.forall_mem_cons.mpr ⟨⟨_, rfl, by decide, wr4 _ (List.mem_of_getElem? (i := 14) rfl)⟩, List.forall_mem_cons.mpr ⟨⟨_, rfl, by decide, wr4 _ (List.mem_of_getElem? (i := 15) rfl)⟩, fun _ h => absurd h List.not_mem_nil⟩⟩⟩
set_option maxRecDepth 100000 in
theorem am_fldP1 : ∀ e ∈ (am_fldL 1), am_FP 1 e := List.forall_mem_cons.mpr ⟨⟨_, rfl, by decide, wr4 _ (List.mem_of_getElem? (i := 2) rfl)⟩, List.forall_mem_cons.mpr ⟨⟨_, rfl, by decide, wr4 _ (List.mem_of_getElem? (i := 3) rfl)⟩, List.forall_mem_cons.mpr ⟨⟨_, rfl, by decide, wr9 _ (List.mem_of_getElem? (i := 16) rfl)⟩, fun _ h => absurd h List.not_mem_nil⟩⟩⟩
set_option maxRecDepth 100000 in
theorem am_fldP2 : ∀ e ∈ (am_fldL 2), am_FP 2 e := List.forall_mem_cons.mpr ⟨⟨_, rfl, by decide, wr5 _ (List.mem_of_getElem? (i := 1) rfl)⟩, List.forall_mem_cons.mpr ⟨⟨_, rfl, by decide, wr8 _ (List.mem_of_getElem? (i := 13) rfl)⟩, List.forall_mem_cons.mpr ⟨⟨_, rfl, by decide, wr8 _ (List.mem_of_getElem? (i := 14) rfl)⟩, fun _ h => absurd h List.not_mem_nil⟩⟩⟩
set_option maxRecDepth 100000 in
theorem am_fldP3 : ∀ e ∈ (am_fldL 3), am_FP 3 e := List.forall_mem_cons.mpr ⟨⟨_, rfl, by decide, wr3 _ (List.mem_of_getElem? (i := 19) rfl)⟩, List.forall_mem_cons.mpr ⟨⟨_, rfl, by decide, wr3 _ (List.mem_of_getElem? (i := 20) rfl)⟩, fun _ h => absurd h List.not_mem_nil⟩⟩
set_option maxRecDepth 100000 in
theorem am_fldP4 : ∀ e ∈ (am_fldL 4), am_FP 4 e := List.forall_mem_cons.mpr ⟨⟨_, rfl, by decide, wr5 _ (List.mem_of_getElem? (i := 23) rfl)⟩, List.forall_mem_cons.mpr ⟨⟨_, rfl, by decide, wr6 _ (List.mem_of_getElem? (i := 0) rfl)⟩, List.forall_mem_cons.mpr ⟨⟨_, rfl, by decide, wr6 _ (List.mem_of_getElem? (i := 1) rfl)⟩, List.forall_mem_cons.mpr ⟨⟨_, rfl, by decide, wr6 _ (List.mem_of_getElem? (i := 2) rfl)⟩, List.forall_mem_cons.mpr ⟨⟨_, rfl, by decide, wr27 _ (List.mem_of_getElem? (i := 8) rfl)⟩, List.forall_mem_cons.mpr ⟨⟨_, rfl, by decide, wr27 _ (List.mem_of_getElem? (i := 14) rfl)⟩, List.forall_mem_cons.mpr ⟨⟨_, rfl, by decide, wr27 _ (List.mem_of_getElem? (i := 15) rfl)⟩, List.forall_mem_cons.mpr ⟨⟨_, rfl, by decide, wr27 _ (List.mem_of_getElem? (i := 20) rfl)⟩, fun _ h => absurd h List.not_mem_nil⟩⟩⟩⟩⟩⟩⟩⟩
set_option maxRecDepth 100000 in
theorem am_fldP5 : ∀ e ∈ (am_fldL 5), am_FP 5 e := List.forall_mem_cons.mpr ⟨⟨_, rfl, by decide, wr4 _ (List.mem_of_getElem? (i := 19) rfl)⟩, List.forall_mem_cons.mpr ⟨⟨_, rfl, by decide, wr4 _ (List.mem_of_getElem? (i := 20) rfl)⟩, List.forall_mem_cons.mpr ⟨⟨_, rfl, by decide, wr10 _ (List.mem_of_getElem? (i := 6) rfl)⟩, List.forall_mem_cons.mpr ⟨⟨_, rfl, by decide, wr10 _ (List.mem_of_getElem? (i := 7) rfl)⟩, List.forall_mem_cons.mpr ⟨⟨_, rfl, by decide, wr10 _ (List.mem_of_getElem? (i := 8) rfl)⟩, List.forall_mem_cons.mpr ⟨⟨_, rfl, by decide, wr28 _ (List.mem_of_getElem? (i := 11) rfl)⟩, List.forall_mem_cons.mpr ⟨⟨_, rfl, by decide, wr28 _ (List.mem_of_getElem? (i := 13) rfl)⟩, List.forall_mem_cons.mpr ⟨⟨_, rfl, by decide, wr28 _ (List.mem_of_getElem? (i := 14) rfl)⟩, List.forall_mem_cons.mpr ⟨⟨_, rfl, by decide, wr28 _ (List.mem_of_getElem? (i := 15) rfl)⟩, List.forall_mem_cons.mpr ⟨⟨_, rfl, by decide, wr28 _ (List.mem_of_getElem? (i := 16) rfl)⟩, List.forall_mem_cons.mpr ⟨⟨_, rfl, by decide, wr28 _ (List.mem_of_getElem? (i := 17) rfl)⟩, List.forall_mem_cons.mpr ⟨⟨_, rfl, by decide, wr28 _ (List.mem_of_getElem? (i := 18) rfl)⟩, List.forall_mem_cons.mpr ⟨⟨_, rfl, by decide, wr28 _ (List.mem_of_getElem? (i := 19) rfl)⟩, fun _ h => absurd h List.not_mem_nil⟩⟩⟩⟩⟩⟩⟩⟩⟩⟩⟩⟩⟩
set_option maxRecDepth 100000 in
theorem am_fldP6 : ∀ e ∈ (am_fldL 6), am_FP 6 e := List.forall_mem_cons.mpr ⟨⟨_, rfl, by decide, wr6 _ (List.mem_of_getElem? (i := 11) rfl)⟩, List.forall_mem_cons.mpr ⟨⟨_, rfl, by decide, wr6 _ (List.mem_of_getElem? (i := 12) rfl)⟩, List.forall_mem_cons.mpr ⟨⟨_, rfl, by decide, wr6 _ (List.mem_of_getElem? (i := 13) rfl)⟩, List.forall_mem_cons.mpr ⟨⟨_, rfl, by decide, wr40 _ (List.mem_of_getElem? (i := 10) rfl)⟩, List.forall_mem_cons.mpr ⟨⟨_, rfl, by decide, wr40 _ (List.mem_of_getElem? (i := 11) rfl)⟩, List.forall_mem_cons.mpr ⟨⟨_, rfl, by decide, wr40 _ (List.mem_of_getElem? (i := 12) rfl)⟩, List.forall_mem_cons.mpr ⟨⟨_, rfl, by decide, wr41 _ (List.mem_of_getElem? (i := 11) rfl)⟩, List.forall_mem_cons.mpr ⟨⟨_, rfl, by decide, wr41 _ (List.mem_of_getElem? (i := 15) rfl)⟩, List.forall_mem_cons.mpr ⟨⟨_, rfl, by decide, wr41 _ (List.mem_of_getElem? (i := 16) rfl)⟩, List.forall_mem_cons.mpr ⟨⟨_, rfl, by decide, wr41 _ (List.mem_of_getElem? (i := 17) rfl)⟩, List.forall_mem_cons.mpr ⟨⟨_, rfl, by decide, wr41 _ (List.mem_of_getElem? (i := 18) rfl)⟩, fun _ h => absurd h List.not_mem_nil⟩⟩⟩⟩⟩⟩⟩⟩⟩⟩⟩
set_option maxRecDepth 100000 in
theorem am_fldP7 : ∀ e ∈ (am_fldL 7), am_FP 7 e := List.forall_mem_cons.mpr ⟨⟨_, rfl, by decide, wr5 _ (List.mem_of_getElem? (i := 14) rfl)⟩, List.forall_mem_cons.mpr ⟨⟨_, rfl, by decide, wr5 _ (List.mem_of_getElem? (i := 15) rfl)⟩, List.forall_mem_cons.mpr ⟨⟨_, rfl, by decide, wr5 _ (List.mem_of_getElem? (i := 16) rfl)⟩, List.forall_mem_cons.mpr ⟨⟨_, rfl, by decide, wr5 _ (List.mem_of_getElem? (i := 18) rfl)⟩, List.forall_mem_cons.mpr ⟨⟨_, rfl, by decide, wr22 _ (List.mem_of_getElem? (i := 2) rfl)⟩, fun _ h => absurd h List.not_mem_nil⟩⟩⟩⟩⟩
set_option maxRecDepth 100000 in
theorem am_fldP8 : ∀ e ∈ (am_fldL 8), am_FP 8 e := List.forall_mem_cons.mpr ⟨⟨_, rfl, by decide, wr3 _ (List.mem_of_getElem? (i := 3) rfl)⟩, List.forall_mem_cons.mpr ⟨⟨_, rfl, by decide, wr3 _ (List.mem_of_getElem? (i := 7) rfl)⟩, List.forall_mem_cons.mpr ⟨⟨_, rfl, by decide, wr3 _ (List.mem_of_getElem? (i := 11) rfl)⟩, List.forall_mem_cons.mpr ⟨⟨_, rfl, by decide, wr3 _ (List.mem_of_getElem? (i := 13) rfl)⟩, List.forall_mem_cons.mpr ⟨⟨_, rfl, by decide, wr3 _ (List.mem_of_getElem? (i := 15) rfl)⟩, fun _ h => absurd h List.not_mem_nil⟩⟩⟩⟩⟩
set_option maxRecDepth 100000 in
theorem am_fldP9 : ∀ e ∈ (am_fldL 9), am_FP 9 e := List.forall_mem_cons.mpr ⟨⟨_, rfl, by decide, wr5 _ (List.mem_of_getElem? (i := 5) rfl)⟩, List.forall_mem_cons.mpr ⟨⟨_, rfl, by decide, wr5 _ (List.mem_of_getElem? (i := 6) rfl)⟩, List.forall_mem_cons.mpr ⟨⟨_, rfl, by decide, wr5 _ (List.mem_of_getElem? (i := 7) rfl)⟩, List.forall_mem_cons.mpr ⟨⟨_, rfl, by decide, wr5 _ (List.mem_of_getElem? (i := 9) rfl)⟩, List.forall_mem_cons.mpr ⟨⟨_, rfl, by decide, wr5 _ (List.mem_of_getElem? (i := 10) rfl)⟩, List.forall_mem_cons.mpr ⟨⟨_, rfl, by decide, wr13 _ (List.mem_of_getElem? (i := 20) rfl)⟩, List.forall_mem_cons.mpr ⟨⟨_, rfl, by decide, wr13 _ (List.mem_of_getElem? (i := 21) rfl)⟩, fun _ h => absurd h List.not_mem_nil⟩⟩⟩⟩⟩⟩⟩
set_option maxRecDepth 100000 in
theorem am_fldP10 : ∀ e ∈ (am_fldL 10), am_FP 10 e := List.forall_mem_cons.mpr ⟨⟨_, rfl, by decide, wr24 _ (List.mem_of_getElem? (i := 18) rfl)⟩, List.forall_mem_cons.mpr ⟨⟨_, rfl, by decide, wr24 _ (List.mem_of_getElem? (i := 19) rfl)⟩, List.forall_mem_cons.mpr ⟨⟨_, rfl, by decide, wr24 _ (List.mem_of_getElem? (i := 20) rfl)⟩, List.forall_mem_cons.mpr ⟨⟨_, rfl, by decide, wr24 _ (List.mem_of_getElem? (i := 21) rfl)⟩, List.forall_mem_cons.mpr ⟨⟨_, rfl, by decide, wr24 _ (List.mem_of_getElem? (i := 22) rfl)⟩, List.forall_mem_cons.mpr ⟨⟨_, rfl, by decide, wr24 _ (List.mem_of_getElem? (i := 23) rfl)⟩, List.forall_mem_cons.mpr ⟨⟨_, rfl, by decide, wr25 _ (List.mem_of_getElem? (i := 0) rfl)⟩, List.forall_mem_cons.mpr ⟨⟨_, rfl, by decide, wr25 _ (List.mem_of_getElem? (i := 1) rfl)⟩, fun _ h => absurd h List.not_mem_nil⟩⟩⟩⟩⟩⟩⟩⟩
set_option maxRecDepth 100000 in
theorem am_fldP11 : ∀ e ∈ (am_fldL 11), am_FP 11 e := List.forall_mem_cons.mpr ⟨⟨_, rfl, by decide, wr1 _ (List.mem_of_getElem? (i := 15) rfl)⟩, List.forall_mem_cons.mpr ⟨⟨_, rfl, by decide, wr1 _ (List.mem_of_getElem? (i := 19) rfl)⟩, List.forall_mem_cons.mpr ⟨⟨_, rfl, by decide, wr1 _ (List.mem_of_getElem? (i := 20) rfl)⟩, List.forall_mem_cons.mpr ⟨⟨_, rfl, by decide, wr2 _ (List.mem_of_getElem? (i := 0) rfl)⟩, List.forall_mem_cons.mpr ⟨⟨_, rfl, by decide, wr2 _ (List.mem_of_getElem? (i := 4) rfl)⟩, List.forall_mem_cons.mpr ⟨⟨_, rfl, by decide, wr2 _ (List.mem_of_getElem? (i := 8) rfl)⟩, List.forall_mem_cons.mpr ⟨⟨_, rfl, by decide, wr2 _ (List.mem_of_getElem? (i := 12) rfl)⟩, List.forall_mem_cons.mpr ⟨⟨_, rfl, by decide, wr2 _ (List.mem_of_getElem? (i := 16) rfl)⟩, List.forall_mem_cons.mpr ⟨⟨_, rfl, by decide, wr2 _ (List.mem_of_getElem? (i := 20) rfl)⟩, List.forall_mem_cons.mpr ⟨⟨_, rfl, by decide, wr7 _ (List.mem_of_getElem? (i := 20) rfl)⟩, List.forall_mem_cons.mpr ⟨⟨_, rfl, by decide, wr11 _ (List.mem_of_getElem? (i := 19) rfl)⟩, List.forall_mem_cons.mpr ⟨⟨_, rfl, by decide, wr12 _ (List.mem_of_getElem? (i := 20) rfl)⟩, List.forall_mem_cons.mpr ⟨⟨_, rfl, by decide, wr13 _ (List.mem_of_getElem? (i := 9) rfl)⟩, List.forall_mem_cons.mpr ⟨⟨_, rfl, by decide, wr21 _ (List.mem_of_getElem? (i := 9) rfl)⟩, List.forall_mem_cons.mpr ⟨⟨_, rfl, by decide, wr21 _ (List.mem_of_getElem? (i := 10) rfl)⟩, List.forall_mem_cons.mpr ⟨⟨_, rfl, by decide, wr24 _ (List.mem_of_getElem? (i := 4) rfl)⟩, List.forall_mem_cons.mpr ⟨⟨_, rfl, by decide, wr25 _ (List.mem_of_getElem? (i := 15) rfl)⟩, List.forall_mem_cons.mpr ⟨⟨_, rfl, by decide, wr34 _ (List.mem_of_getElem? (i := 10) rfl)⟩, List.forall_mem_cons.mpr ⟨⟨_, rfl, by decide, wr34 _ (List.mem_of_getElem? (i := 11) rfl)⟩, List.forall_mem_cons.mpr ⟨⟨_, rfl, by decide, wr34 _ (List.mem_of_getElem? (i := 20) rfl)⟩, List.forall_mem_cons.mpr ⟨⟨_, rfl, by decide, wr43 _ (List.mem_of_getElem? (i := 7) rfl)⟩, List.forall_mem_cons.mpr ⟨⟨_, rfl, by decide, wr43 _ (List.mem_of_getElem? (i := 8) rfl)⟩, List.forall_mem_cons.mpr ⟨⟨_, rfl, by decide, wr43 _ (List.mem_of_getElem? (i := 9) rfl)⟩, List.forall_mem_cons.mpr ⟨⟨_, rfl, by decide, wr43 _ (List.mem_of_getElem? (i := 10) rfl)⟩, fun _ h => absurd h List.not_mem_nil⟩⟩⟩⟩⟩⟩⟩⟩⟩⟩⟩⟩⟩⟩⟩⟩⟩⟩⟩⟩⟩⟩⟩⟩
set_option maxRecDepth 100000 in
theorem am_fldP12 : ∀ e ∈ (am_fldL 12), am_FP 12 e := List.forall_mem_cons.mpr ⟨⟨_, rfl, by decide, wr6 _ (List.mem_of_getElem? (i := 19) rfl)⟩, List.forall_mem_cons.mpr ⟨⟨_, rfl, by decide, wr6 _ (List.mem_of_getElem? (i := 20) rfl)⟩, List.forall_mem_cons.mpr ⟨⟨_, rfl, by decide, wr6 _ (List.mem_of_getElem? (i := 21) rfl)⟩, List.forall_mem_cons.mpr ⟨⟨_, rfl, by decide, wr6 _ (List.mem_of_getElem? (i := 22) rfl)⟩, List.forall_mem_cons.mpr ⟨⟨_, rfl, by decide, wr7 _ (List.mem_of_getElem? (i := 0) rfl)⟩, List.forall_mem_cons.mpr ⟨⟨_, rfl, by decide, wr7 _ (List.mem_of_getElem? (i := 1) rfl)⟩, List.forall_mem_cons.mpr ⟨⟨_, rfl, by decide, wr7 _ (List.mem_of_getElem? (i := 2) rfl)⟩, List.forall_mem_cons.mpr ⟨⟨_, rfl, by decide, wr7 _ (List.mem_of_getElem? (i := 3) rfl)⟩, List.forall_mem_cons.mpr ⟨⟨_, rfl, by decide, wr7 _ (List.mem_of_getElem? (i := 4) rfl)⟩, List.forall_mem_cons.mpr ⟨⟨_, rfl, by decide, wr7 _ (List.mem_of_getElem? (i := 5) rfl)⟩, List.forall_mem_cons.mpr ⟨⟨_, rfl, by decide, wr7 _ (List.mem_of_getElem? (i := 6) rfl)⟩, List.forall_mem_cons.mpr ⟨⟨_, rfl, by decide, wr7 _ (List.mem_of_getElem? (i := 7) rfl)⟩, List.forall_mem_cons.mpr ⟨⟨_, rfl, by decide, wr7 _ (List.mem_of_getElem? (i := 8) rfl)⟩, List.forall_mem_cons.mpr ⟨⟨_, rfl, by decide, wr7 _ (List.mem_of_getElem? (i := 9) rfl)⟩, List.forall_mem_cons.mpr ⟨⟨_, rfl, by decide, wr7 _ (List.mem_of_getElem? (i := 10) rfl)⟩, List.forall_mem_cons.mpr ⟨⟨_, rfl, by decide, wr11 _ (List.mem_of_getElem? (i := 9) rfl)⟩, List.forall_mem_cons.mpr ⟨⟨_, rfl, by decide, wr17 _ (List.mem_of_getElem? (i := 14) rfl)⟩, List.forall_mem_cons.mpr ⟨⟨_, rfl, by decide, wr17 _ (List.mem_of_getElem? (i := 15) rfl)⟩, List.forall_mem_cons.mpr ⟨⟨_, rfl, by decide, wr17 _ (List.mem_of_getElem? (i := 22) rfl)⟩, List.forall_mem_cons.mpr ⟨⟨_, rfl, by decide, wr46 _ (List.mem_of_getElem? (i := 18) rfl)⟩, fun _ h => absurd h List.not_mem_nil⟩⟩⟩⟩⟩⟩⟩⟩⟩⟩⟩⟩⟩⟩⟩⟩⟩⟩⟩⟩
theorem am_fldP (c : Nat) : ∀ e ∈ am_fldL c, am_FP c e := by
  match c with
  | 0 => exact am_fldP0
  | 1 => exact am_fldP1
  | 2 => exact am_fldP2
  | 3 => exact am_fldP3
  | 4 => exact am_fldP4
  | 5 => exact am_fldP5
  | 6 => exact am_fldP6
  | 7 => exact am_fldP7
  | 8 => exact am_fldP8
  | 9 => exact am_fldP9
  | 10 => exact am_fldP10
  | 11 => exact am_fldP11
  | 12 => exact am_fldP12
  | 13 => exact fun _ h => absurd h List.not_mem_nil
  | 14 => exact fun _ h => absurd h List.not_mem_nil
  | _ + 15 => exact fun _ h => absurd h List.not_mem_nil
def am_KP (c : Nat) (e : Nat × Int32) : Prop := Cond.constant (am_cn c) e.1 e.2 ∈ wsL_law
set_option maxRecDepth 100000 in
theorem am_conP0 : ∀ e ∈ (am_conL 0), am_KP 0 e := List.forall_mem_cons.mpr ⟨wr4 _ (List.mem_of_getElem? (i := 13) rfl), fun _ h => absurd h List.not_mem_nil⟩
set_option maxRecDepth 100000 in
theorem am_conP3 : ∀ e ∈ (am_conL 3), am_KP 3 e := List.forall_mem_cons.mpr ⟨wr17 _ (List.mem_of_getElem? (i := 2) rfl), fun _ h => absurd h List.not_mem_nil⟩
set_option maxRecDepth 100000 in
theorem am_conP4 : ∀ e ∈ (am_conL 4), am_KP 4 e := List.forall_mem_cons.mpr ⟨wr27 _ (List.mem_of_getElem? (i := 21) rfl), fun _ h => absurd h List.not_mem_nil⟩
set_option maxRecDepth 100000 in
theorem am_conP5 : ∀ e ∈ (am_conL 5), am_KP 5 e := List.forall_mem_cons.mpr ⟨wr28 _ (List.mem_of_getElem? (i := 12) rfl), List.forall_mem_cons.mpr ⟨wr35 _ (List.mem_of_getElem? (i := 21) rfl), fun _ h => absurd h List.not_mem_nil⟩⟩
set_option maxRecDepth 100000 in
theorem am_conP8 : ∀ e ∈ (am_conL 8), am_KP 8 e := List.forall_mem_cons.mpr ⟨wr3 _ (List.mem_of_getElem? (i := 14) rfl), fun _ h => absurd h List.not_mem_nil⟩
set_option maxRecDepth 100000 in
theorem am_conP9 : ∀ e ∈ (am_conL 9), am_KP 9 e := List.forall_mem_cons.mpr ⟨wr5 _ (List.mem_of_getElem? (i := 8) rfl), fun _ h => absurd h List.not_mem_nil⟩
set_option maxRecDepth 100000 in
theorem am_conP10 : ∀ e ∈ (am_conL 10), am_KP 10 e := List.forall_mem_cons.mpr ⟨wr26 _ (List.mem_of_getElem? (i := 2) rfl), fun _ h => absurd h List.not_mem_nil⟩
set_option maxRecDepth 100000 in
theorem am_conP11 : ∀ e ∈ (am_conL 11), am_KP 11 e := List.forall_mem_cons.mpr ⟨wr7 _ (List.mem_of_getElem? (i := 19) rfl), List.forall_mem_cons.mpr ⟨wr12 _ (List.mem_of_getElem? (i := 18) rfl), List.forall_mem_cons.mpr ⟨wr12 _ (List.mem_of_getElem? (i := 19) rfl), List.forall_mem_cons.mpr ⟨wr13 _ (List.mem_of_getElem? (i := 10) rfl), List.forall_mem_cons.mpr ⟨wr13 _ (List.mem_of_getElem? (i := 11) rfl), fun _ h => absurd h List.not_mem_nil⟩⟩⟩⟩⟩
set_option maxRecDepth 100000 in
theorem am_conP12 : ∀ e ∈ (am_conL 12), am_KP 12 e := List.forall_mem_cons.mpr ⟨wr6 _ (List.mem_of_getElem? (i := 23) rfl), List.forall_mem_cons.mpr ⟨wr10 _ (List.mem_of_getElem? (i := 22) rfl), List.forall_mem_cons.mpr ⟨wr13 _ (List.mem_of_getElem? (i := 4) rfl), List.forall_mem_cons.mpr ⟨wr17 _ (List.mem_of_getElem? (i := 16) rfl), List.forall_mem_cons.mpr ⟨wr17 _ (List.mem_of_getElem? (i := 17) rfl), fun _ h => absurd h List.not_mem_nil⟩⟩⟩⟩⟩
theorem am_conP (c : Nat) : ∀ e ∈ am_conL c, am_KP c e := by
  match c with
  | 0 => exact am_conP0
  | 1 => exact fun _ h => absurd h List.not_mem_nil
  | 2 => exact fun _ h => absurd h List.not_mem_nil
  | 3 => exact am_conP3
  | 4 => exact am_conP4
  | 5 => exact am_conP5
  | 6 => exact fun _ h => absurd h List.not_mem_nil
  | 7 => exact fun _ h => absurd h List.not_mem_nil
  | 8 => exact am_conP8
  | 9 => exact am_conP9
  | 10 => exact am_conP10
  | 11 => exact am_conP11
  | 12 => exact am_conP12
  | 13 => exact fun _ h => absurd h List.not_mem_nil
  | 14 => exact fun _ h => absurd h List.not_mem_nil
  | _ + 15 => exact fun _ h => absurd h List.not_mem_nil
def am_LP (c : Nat) (e : Nat × Int64) : Prop := Cond.constantLong (am_cn c) e.1 e.2 ∈ wsL_law
set_option maxRecDepth 100000 in
theorem am_lngP3 : ∀ e ∈ (am_lngL 3), am_LP 3 e := List.forall_mem_cons.mpr ⟨wr36 _ (List.mem_of_getElem? (i := 11) rfl), fun _ h => absurd h List.not_mem_nil⟩
set_option maxRecDepth 100000 in
theorem am_lngP7 : ∀ e ∈ (am_lngL 7), am_LP 7 e := List.forall_mem_cons.mpr ⟨wr36 _ (List.mem_of_getElem? (i := 6) rfl), fun _ h => absurd h List.not_mem_nil⟩
set_option maxRecDepth 100000 in
theorem am_lngP10 : ∀ e ∈ (am_lngL 10), am_LP 10 e := List.forall_mem_cons.mpr ⟨wr26 _ (List.mem_of_getElem? (i := 15) rfl), List.forall_mem_cons.mpr ⟨wr28 _ (List.mem_of_getElem? (i := 2) rfl), fun _ h => absurd h List.not_mem_nil⟩⟩
set_option maxRecDepth 100000 in
theorem am_lngP11 : ∀ e ∈ (am_lngL 11), am_LP 11 e := List.forall_mem_cons.mpr ⟨wr25 _ (List.mem_of_getElem? (i := 6) rfl), List.forall_mem_cons.mpr ⟨wr44 _ (List.mem_of_getElem? (i := 19) rfl), fun _ h => absurd h List.not_mem_nil⟩⟩
set_option maxRecDepth 100000 in
theorem am_lngP12 : ∀ e ∈ (am_lngL 12), am_LP 12 e := List.forall_mem_cons.mpr ⟨wr29 _ (List.mem_of_getElem? (i := 20) rfl), List.forall_mem_cons.mpr ⟨wr30 _ (List.mem_of_getElem? (i := 20) rfl), List.forall_mem_cons.mpr ⟨wr30 _ (List.mem_of_getElem? (i := 21) rfl), List.forall_mem_cons.mpr ⟨wr31 _ (List.mem_of_getElem? (i := 17) rfl), List.forall_mem_cons.mpr ⟨wr45 _ (List.mem_of_getElem? (i := 0) rfl), fun _ h => absurd h List.not_mem_nil⟩⟩⟩⟩⟩
theorem am_lngP (c : Nat) : ∀ e ∈ am_lngL c, am_LP c e := by
  match c with
  | 0 => exact fun _ h => absurd h List.not_mem_nil
  | 1 => exact fun _ h => absurd h List.not_mem_nil
  | 2 => exact fun _ h => absurd h List.not_mem_nil
  | 3 => exact am_lngP3
  | 4 => exact fun _ h => absurd h List.not_mem_nil
  | 5 => exact fun _ h => absurd h List.not_mem_nil
  | 6 => exact fun _ h => absurd h List.not_mem_nil
  | 7 => exact am_lngP7
  | 8 => exact fun _ h => absurd h List.not_mem_nil
  | 9 => exact fun _ h => absurd h List.not_mem_nil
  | 10 => exact am_lngP10
  | 11 => exact am_lngP11
  | 12 => exact am_lngP12
  | 13 => exact fun _ h => absurd h List.not_mem_nil
  | 14 => exact fun _ h => absurd h List.not_mem_nil
  | _ + 15 => exact fun _ h => absurd h List.not_mem_nil
set_option maxRecDepth 100000 in
theorem am_newP1 : ∀ e ∈ (am_newL 1), am_NP 1 e := List.forall_mem_cons.mpr ⟨⟨_, rfl, wr4 _ (List.mem_of_getElem? (i := 1) rfl), wr2 _ (List.mem_of_getElem? (i := 14) rfl), wr2 _ (List.mem_of_getElem? (i := 15) rfl)⟩, fun _ h => absurd h List.not_mem_nil⟩
set_option maxRecDepth 100000 in
theorem am_newP2 : ∀ e ∈ (am_newL 2), am_NP 2 e := List.forall_mem_cons.mpr ⟨⟨_, rfl, wr5 _ (List.mem_of_getElem? (i := 0) rfl), wr1 _ (List.mem_of_getElem? (i := 13) rfl), wr1 _ (List.mem_of_getElem? (i := 14) rfl)⟩, fun _ h => absurd h List.not_mem_nil⟩
set_option maxRecDepth 100000 in
theorem am_newP4 : ∀ e ∈ (am_newL 4), am_NP 4 e := List.forall_mem_cons.mpr ⟨⟨_, rfl, wr5 _ (List.mem_of_getElem? (i := 22) rfl), wr2 _ (List.mem_of_getElem? (i := 18) rfl), wr2 _ (List.mem_of_getElem? (i := 19) rfl)⟩, fun _ h => absurd h List.not_mem_nil⟩
set_option maxRecDepth 100000 in
theorem am_newP6 : ∀ e ∈ (am_newL 6), am_NP 6 e := List.forall_mem_cons.mpr ⟨⟨_, rfl, wr6 _ (List.mem_of_getElem? (i := 10) rfl), wr2 _ (List.mem_of_getElem? (i := 18) rfl), wr2 _ (List.mem_of_getElem? (i := 19) rfl)⟩, fun _ h => absurd h List.not_mem_nil⟩
set_option maxRecDepth 100000 in
theorem am_newP7 : ∀ e ∈ (am_newL 7), am_NP 7 e := List.forall_mem_cons.mpr ⟨⟨_, rfl, wr5 _ (List.mem_of_getElem? (i := 17) rfl), wr2 _ (List.mem_of_getElem? (i := 14) rfl), wr2 _ (List.mem_of_getElem? (i := 15) rfl)⟩, fun _ h => absurd h List.not_mem_nil⟩
set_option maxRecDepth 100000 in
theorem am_newP8 : ∀ e ∈ (am_newL 8), am_NP 8 e := List.forall_mem_cons.mpr ⟨⟨_, rfl, wr3 _ (List.mem_of_getElem? (i := 0) rfl), wr3 _ (List.mem_of_getElem? (i := 1) rfl), wr3 _ (List.mem_of_getElem? (i := 2) rfl)⟩, List.forall_mem_cons.mpr ⟨⟨_, rfl, wr3 _ (List.mem_of_getElem? (i := 4) rfl), wr3 _ (List.mem_of_getElem? (i := 5) rfl), wr3 _ (List.mem_of_getElem? (i := 6) rfl)⟩, List.forall_mem_cons.mpr ⟨⟨_, rfl, wr3 _ (List.mem_of_getElem? (i := 8) rfl), wr3 _ (List.mem_of_getElem? (i := 9) rfl), wr3 _ (List.mem_of_getElem? (i := 10) rfl)⟩, fun _ h => absurd h List.not_mem_nil⟩⟩⟩
set_option maxRecDepth 100000 in
theorem am_newP11 : ∀ e ∈ (am_newL 11), am_NP 11 e := List.forall_mem_cons.mpr ⟨⟨_, rfl, wr1 _ (List.mem_of_getElem? (i := 12) rfl), wr1 _ (List.mem_of_getElem? (i := 13) rfl), wr1 _ (List.mem_of_getElem? (i := 14) rfl)⟩, List.forall_mem_cons.mpr ⟨⟨_, rfl, wr1 _ (List.mem_of_getElem? (i := 16) rfl), wr1 _ (List.mem_of_getElem? (i := 17) rfl), wr1 _ (List.mem_of_getElem? (i := 18) rfl)⟩, List.forall_mem_cons.mpr ⟨⟨_, rfl, wr1 _ (List.mem_of_getElem? (i := 21) rfl), wr1 _ (List.mem_of_getElem? (i := 22) rfl), wr1 _ (List.mem_of_getElem? (i := 23) rfl)⟩, List.forall_mem_cons.mpr ⟨⟨_, rfl, wr2 _ (List.mem_of_getElem? (i := 1) rfl), wr2 _ (List.mem_of_getElem? (i := 2) rfl), wr2 _ (List.mem_of_getElem? (i := 3) rfl)⟩, List.forall_mem_cons.mpr ⟨⟨_, rfl, wr2 _ (List.mem_of_getElem? (i := 5) rfl), wr2 _ (List.mem_of_getElem? (i := 6) rfl), wr2 _ (List.mem_of_getElem? (i := 7) rfl)⟩, List.forall_mem_cons.mpr ⟨⟨_, rfl, wr2 _ (List.mem_of_getElem? (i := 9) rfl), wr2 _ (List.mem_of_getElem? (i := 10) rfl), wr2 _ (List.mem_of_getElem? (i := 11) rfl)⟩, List.forall_mem_cons.mpr ⟨⟨_, rfl, wr2 _ (List.mem_of_getElem? (i := 13) rfl), wr2 _ (List.mem_of_getElem? (i := 14) rfl), wr2 _ (List.mem_of_getElem? (i := 15) rfl)⟩, List.forall_mem_cons.mpr ⟨⟨_, rfl, wr2 _ (List.mem_of_getElem? (i := 17) rfl), wr2 _ (List.mem_of_getElem? (i := 18) rfl), wr2 _ (List.mem_of_getElem? (i := 19) rfl)⟩, fun _ h => absurd h List.not_mem_nil⟩⟩⟩⟩⟩⟩⟩⟩
set_option maxRecDepth 100000 in
theorem am_newP14 : ∀ e ∈ (am_newL 14), am_NP 14 e := List.forall_mem_cons.mpr ⟨⟨_, rfl, wr1 _ (List.mem_of_getElem? (i := 0) rfl), wr1 _ (List.mem_of_getElem? (i := 1) rfl), wr1 _ (List.mem_of_getElem? (i := 2) rfl)⟩, List.forall_mem_cons.mpr ⟨⟨_, rfl, wr1 _ (List.mem_of_getElem? (i := 3) rfl), wr1 _ (List.mem_of_getElem? (i := 4) rfl), wr1 _ (List.mem_of_getElem? (i := 5) rfl)⟩, fun _ h => absurd h List.not_mem_nil⟩⟩
theorem am_newP (c : Nat) : ∀ e ∈ am_newL c, am_NP c e := by
  match c with
  | 0 => exact fun _ h => absurd h List.not_mem_nil
  | 1 => exact am_newP1
  | 2 => exact am_newP2
  | 3 => exact fun _ h => absurd h List.not_mem_nil
  | 4 => exact am_newP4
  | 5 => exact fun _ h => absurd h List.not_mem_nil
  | 6 => exact am_newP6
  | 7 => exact am_newP7
  | 8 => exact am_newP8
  | 9 => exact fun _ h => absurd h List.not_mem_nil
  | 10 => exact fun _ h => absurd h List.not_mem_nil
  | 11 => exact am_newP11
  | 12 => exact fun _ h => absurd h List.not_mem_nil
  | 13 => exact fun _ h => absurd h List.not_mem_nil
  | 14 => exact am_newP14
  | _ + 15 => exact fun _ h => absurd h List.not_mem_nil
set_option maxRecDepth 100000 in
theorem am_anP1 : ∀ e ∈ (am_anL 1), am_AP 1 e := List.forall_mem_cons.mpr ⟨⟨⟨by decide, by decide⟩, wr4 _ (List.mem_of_getElem? (i := 1) rfl)⟩, fun _ h => absurd h List.not_mem_nil⟩
set_option maxRecDepth 100000 in
theorem am_anP2 : ∀ e ∈ (am_anL 2), am_AP 2 e := List.forall_mem_cons.mpr ⟨⟨⟨by decide, by decide⟩, wr5 _ (List.mem_of_getElem? (i := 0) rfl)⟩, fun _ h => absurd h List.not_mem_nil⟩
set_option maxRecDepth 100000 in
theorem am_anP6 : ∀ e ∈ (am_anL 6), am_AP 6 e := List.forall_mem_cons.mpr ⟨⟨⟨by decide, by decide⟩, wr6 _ (List.mem_of_getElem? (i := 10) rfl)⟩, fun _ h => absurd h List.not_mem_nil⟩
set_option maxRecDepth 100000 in
theorem am_anP7 : ∀ e ∈ (am_anL 7), am_AP 7 e := List.forall_mem_cons.mpr ⟨⟨⟨by decide, by decide⟩, wr5 _ (List.mem_of_getElem? (i := 17) rfl)⟩, fun _ h => absurd h List.not_mem_nil⟩
set_option maxRecDepth 100000 in
theorem am_anP11 : ∀ e ∈ (am_anL 11), am_AP 11 e := List.forall_mem_cons.mpr ⟨⟨⟨by decide, by decide⟩, wr1 _ (List.mem_of_getElem? (i := 12) rfl)⟩, fun _ h => absurd h List.not_mem_nil⟩
theorem am_anP (c : Nat) : ∀ e ∈ am_anL c, am_AP c e := by
  match c with
  | 0 => exact fun _ h => absurd h List.not_mem_nil
  | 1 => exact am_anP1
  | 2 => exact am_anP2
  | 3 => exact fun _ h => absurd h List.not_mem_nil
  | 4 => exact fun _ h => absurd h List.not_mem_nil
  | 5 => exact fun _ h => absurd h List.not_mem_nil
  | 6 => exact am_anP6
  | 7 => exact am_anP7
  | 8 => exact fun _ h => absurd h List.not_mem_nil
  | 9 => exact fun _ h => absurd h List.not_mem_nil
  | 10 => exact fun _ h => absurd h List.not_mem_nil
  | 11 => exact am_anP11
  | 12 => exact fun _ h => absurd h List.not_mem_nil
  | 13 => exact fun _ h => absurd h List.not_mem_nil
  | 14 => exact fun _ h => absurd h List.not_mem_nil
  | _ + 15 => exact fun _ h => absurd h List.not_mem_nil
set_option maxRecDepth 100000 in
theorem am_spP0 : ∀ e ∈ (am_spL 0), am_SP 0 e := List.forall_mem_cons.mpr ⟨⟨fun _ => wr4 _ (List.mem_of_getElem? (i := 7) rfl), fun h => absurd h (by decide), fun h => absurd h (by decide), fun h => absurd h (by decide)⟩, List.forall_mem_cons.mpr ⟨⟨fun h => absurd h (by decide), fun _ => wr10 _ (List.mem_of_getElem? (i := 1) rfl), fun h => absurd h (by decide), fun h => absurd h (by decide)⟩, fun _ h => absurd h List.not_mem_nil⟩⟩
set_option maxRecDepth 100000 in
theorem am_spP1 : ∀ e ∈ (am_spL 1), am_SP 1 e := List.forall_mem_cons.mpr ⟨⟨fun _ => wr4 _ (List.mem_of_getElem? (i := 0) rfl), fun h => absurd h (by decide), fun h => absurd h (by decide), fun h => absurd h (by decide)⟩, fun _ h => absurd h List.not_mem_nil⟩
set_option maxRecDepth 100000 in
theorem am_spP2 : ∀ e ∈ (am_spL 2), am_SP 2 e := List.forall_mem_cons.mpr ⟨⟨fun _ => wr4 _ (List.mem_of_getElem? (i := 23) rfl), fun h => absurd h (by decide), fun h => absurd h (by decide), fun h => absurd h (by decide)⟩, fun _ h => absurd h List.not_mem_nil⟩
set_option maxRecDepth 100000 in
theorem am_spP3 : ∀ e ∈ (am_spL 3), am_SP 3 e := List.forall_mem_cons.mpr ⟨⟨fun _ => wr3 _ (List.mem_of_getElem? (i := 18) rfl), fun h => absurd h (by decide), fun h => absurd h (by decide), fun h => absurd h (by decide)⟩, List.forall_mem_cons.mpr ⟨⟨fun h => absurd h (by decide), fun _ => wr9 _ (List.mem_of_getElem? (i := 11) rfl), fun h => absurd h (by decide), fun h => absurd h (by decide)⟩, fun _ h => absurd h List.not_mem_nil⟩⟩
set_option maxRecDepth 100000 in
theorem am_spP4 : ∀ e ∈ (am_spL 4), am_SP 4 e := List.forall_mem_cons.mpr ⟨⟨fun _ => wr5 _ (List.mem_of_getElem? (i := 21) rfl), fun h => absurd h (by decide), fun h => absurd h (by decide), fun h => absurd h (by decide)⟩, fun _ h => absurd h List.not_mem_nil⟩
set_option maxRecDepth 100000 in
theorem am_spP5 : ∀ e ∈ (am_spL 5), am_SP 5 e := List.forall_mem_cons.mpr ⟨⟨fun _ => wr4 _ (List.mem_of_getElem? (i := 18) rfl), fun h => absurd h (by decide), fun h => absurd h (by decide), fun h => absurd h (by decide)⟩, List.forall_mem_cons.mpr ⟨⟨fun h => absurd h (by decide), fun h => absurd h (by decide), fun _ => wr24 _ (List.mem_of_getElem? (i := 9) rfl), fun h => absurd h (by decide)⟩, List.forall_mem_cons.mpr ⟨⟨fun h => absurd h (by decide), fun _ => wr10 _ (List.mem_of_getElem? (i := 9) rfl), fun h => absurd h (by decide), fun h => absurd h (by decide)⟩, fun _ h => absurd h List.not_mem_nil⟩⟩⟩
set_option maxRecDepth 100000 in
theorem am_spP6 : ∀ e ∈ (am_spL 6), am_SP 6 e := List.forall_mem_cons.mpr ⟨⟨fun _ => wr6 _ (List.mem_of_getElem? (i := 9) rfl), fun h => absurd h (by decide), fun h => absurd h (by decide), fun h => absurd h (by decide)⟩, fun _ h => absurd h List.not_mem_nil⟩
set_option maxRecDepth 100000 in
theorem am_spP7 : ∀ e ∈ (am_spL 7), am_SP 7 e := List.forall_mem_cons.mpr ⟨⟨fun _ => wr5 _ (List.mem_of_getElem? (i := 13) rfl), fun h => absurd h (by decide), fun h => absurd h (by decide), fun h => absurd h (by decide)⟩, List.forall_mem_cons.mpr ⟨⟨fun h => absurd h (by decide), fun h => absurd h (by decide), fun _ => wr21 _ (List.mem_of_getElem? (i := 23) rfl), fun h => absurd h (by decide)⟩, List.forall_mem_cons.mpr ⟨⟨fun h => absurd h (by decide), fun _ => wr22 _ (List.mem_of_getElem? (i := 8) rfl), fun h => absurd h (by decide), fun h => absurd h (by decide)⟩, fun _ h => absurd h List.not_mem_nil⟩⟩⟩
set_option maxRecDepth 100000 in
theorem am_spP8 : ∀ e ∈ (am_spL 8), am_SP 8 e := List.forall_mem_cons.mpr ⟨⟨fun _ => wr2 _ (List.mem_of_getElem? (i := 23) rfl), fun h => absurd h (by decide), fun h => absurd h (by decide), fun h => absurd h (by decide)⟩, List.forall_mem_cons.mpr ⟨⟨fun h => absurd h (by decide), fun _ => wr9 _ (List.mem_of_getElem? (i := 3) rfl), fun h => absurd h (by decide), fun h => absurd h (by decide)⟩, fun _ h => absurd h List.not_mem_nil⟩⟩
set_option maxRecDepth 100000 in
theorem am_spP9 : ∀ e ∈ (am_spL 9), am_SP 9 e := List.forall_mem_cons.mpr ⟨⟨fun _ => wr5 _ (List.mem_of_getElem? (i := 4) rfl), fun h => absurd h (by decide), fun h => absurd h (by decide), fun h => absurd h (by decide)⟩, fun _ h => absurd h List.not_mem_nil⟩
set_option maxRecDepth 100000 in
theorem am_spP10 : ∀ e ∈ (am_spL 10), am_SP 10 e := List.forall_mem_cons.mpr ⟨⟨fun _ => wr6 _ (List.mem_of_getElem? (i := 5) rfl), fun h => absurd h (by decide), fun h => absurd h (by decide), fun h => absurd h (by decide)⟩, fun _ h => absurd h List.not_mem_nil⟩
set_option maxRecDepth 100000 in
theorem am_spP11 : ∀ e ∈ (am_spL 11), am_SP 11 e := List.forall_mem_cons.mpr ⟨⟨fun _ => wr1 _ (List.mem_of_getElem? (i := 9) rfl), fun h => absurd h (by decide), fun h => absurd h (by decide), fun h => absurd h (by decide)⟩, List.forall_mem_cons.mpr ⟨⟨fun h => absurd h (by decide), fun h => absurd h (by decide), fun h => absurd h (by decide), fun _ => wr19 _ (List.mem_of_getElem? (i := 23) rfl)⟩, fun _ h => absurd h List.not_mem_nil⟩⟩
set_option maxRecDepth 100000 in
theorem am_spP12 : ∀ e ∈ (am_spL 12), am_SP 12 e := List.forall_mem_cons.mpr ⟨⟨fun _ => wr6 _ (List.mem_of_getElem? (i := 18) rfl), fun h => absurd h (by decide), fun h => absurd h (by decide), fun h => absurd h (by decide)⟩, fun _ h => absurd h List.not_mem_nil⟩
theorem am_spP (c : Nat) : ∀ e ∈ am_spL c, am_SP c e := by
  match c with
  | 0 => exact am_spP0
  | 1 => exact am_spP1
  | 2 => exact am_spP2
  | 3 => exact am_spP3
  | 4 => exact am_spP4
  | 5 => exact am_spP5
  | 6 => exact am_spP6
  | 7 => exact am_spP7
  | 8 => exact am_spP8
  | 9 => exact am_spP9
  | 10 => exact am_spP10
  | 11 => exact am_spP11
  | 12 => exact am_spP12
  | 13 => exact fun _ h => absurd h List.not_mem_nil
  | 14 => exact fun _ h => absurd h List.not_mem_nil
  | _ + 15 => exact fun _ h => absurd h List.not_mem_nil
set_option maxRecDepth 100000 in
theorem moJ9_floorMod_7cf53 : am_MO mJ9_floorMod_7cf53 := ⟨wr8 _ (List.mem_of_getElem? (i := 22) rfl), by decide +kernel, ⟨by decide +kernel, by decide +kernel⟩, wr20 _ (List.mem_of_getElem? (i := 1) rfl), rfl⟩
set_option maxRecDepth 100000 in
theorem moX0_clear : am_MO mX0_clear := ⟨wr4 _ (List.mem_of_getElem? (i := 12) rfl), by decide +kernel, ⟨by decide +kernel, by decide +kernel⟩, wr2 _ (List.mem_of_getElem? (i := 15) rfl), rfl⟩
set_option maxRecDepth 100000 in
theorem moX0_copyFrom : am_MO mX0_copyFrom := ⟨wr10 _ (List.mem_of_getElem? (i := 0) rfl), by decide +kernel, ⟨by decide +kernel, by decide +kernel⟩, wr2 _ (List.mem_of_getElem? (i := 15) rfl), rfl⟩
set_option maxRecDepth 100000 in
theorem moX0_init : am_MO mX0_init := ⟨wr4 _ (List.mem_of_getElem? (i := 6) rfl), by decide +kernel, ⟨by decide +kernel, by decide +kernel⟩, wr2 _ (List.mem_of_getElem? (i := 15) rfl), rfl⟩
set_option maxRecDepth 100000 in
theorem moX0_readFrom : am_MO mX0_readFrom := ⟨wr25 _ (List.mem_of_getElem? (i := 19) rfl), by decide +kernel, ⟨by decide +kernel, by decide +kernel⟩, wr2 _ (List.mem_of_getElem? (i := 15) rfl), rfl⟩
set_option maxRecDepth 100000 in
theorem moX0_show : am_MO mX0_show := ⟨wr16 _ (List.mem_of_getElem? (i := 17) rfl), by decide +kernel, ⟨by decide +kernel, by decide +kernel⟩, wr2 _ (List.mem_of_getElem? (i := 15) rfl), rfl⟩
set_option maxRecDepth 100000 in
theorem moX0_shows : am_MO mX0_shows := ⟨wr17 _ (List.mem_of_getElem? (i := 8) rfl), by decide +kernel, ⟨by decide +kernel, by decide +kernel⟩, wr2 _ (List.mem_of_getElem? (i := 15) rfl), rfl⟩
set_option maxRecDepth 100000 in
theorem moX10_addCard : am_MO mX10_addCard := ⟨wr29 _ (List.mem_of_getElem? (i := 7) rfl), by decide +kernel, ⟨by decide +kernel, by decide +kernel⟩, wr2 _ (List.mem_of_getElem? (i := 19) rfl), rfl⟩
set_option maxRecDepth 100000 in
theorem moX10_addOvertime : am_MO mX10_addOvertime := ⟨wr28 _ (List.mem_of_getElem? (i := 6) rfl), by decide +kernel, ⟨by decide +kernel, by decide +kernel⟩, wr2 _ (List.mem_of_getElem? (i := 19) rfl), rfl⟩
set_option maxRecDepth 100000 in
theorem moX10_clear : am_MO mX10_clear := ⟨wr24 _ (List.mem_of_getElem? (i := 17) rfl), by decide +kernel, ⟨by decide +kernel, by decide +kernel⟩, wr2 _ (List.mem_of_getElem? (i := 19) rfl), rfl⟩
set_option maxRecDepth 100000 in
theorem moX10_fillFrom : am_MO mX10_fillFrom := ⟨wr26 _ (List.mem_of_getElem? (i := 1) rfl), by decide +kernel, ⟨by decide +kernel, by decide +kernel⟩, wr2 _ (List.mem_of_getElem? (i := 19) rfl), rfl⟩
set_option maxRecDepth 100000 in
theorem moX10_init : am_MO mX10_init := ⟨wr6 _ (List.mem_of_getElem? (i := 4) rfl), by decide +kernel, ⟨by decide +kernel, by decide +kernel⟩, wr2 _ (List.mem_of_getElem? (i := 19) rfl), rfl⟩
set_option maxRecDepth 100000 in
theorem moX10_key : am_MO mX10_key := ⟨wr26 _ (List.mem_of_getElem? (i := 11) rfl), by decide +kernel, ⟨by decide +kernel, by decide +kernel⟩, wr2 _ (List.mem_of_getElem? (i := 19) rfl), rfl⟩
set_option maxRecDepth 100000 in
theorem moX10_keyOf : am_MO mX10_keyOf := ⟨wr26 _ (List.mem_of_getElem? (i := 14) rfl), by decide +kernel, ⟨by decide +kernel, by decide +kernel⟩, wr2 _ (List.mem_of_getElem? (i := 19) rfl), rfl⟩
set_option maxRecDepth 100000 in
theorem moX10_overtimeBeyond : am_MO mX10_overtimeBeyond := ⟨wr28 _ (List.mem_of_getElem? (i := 1) rfl), by decide +kernel, ⟨by decide +kernel, by decide +kernel⟩, wr2 _ (List.mem_of_getElem? (i := 19) rfl), rfl⟩
set_option maxRecDepth 100000 in
theorem moX11_acceptedTotal : am_MO mX11_acceptedTotal := ⟨wr39 _ (List.mem_of_getElem? (i := 13) rfl), by decide +kernel, ⟨by decide +kernel, by decide +kernel⟩, wr1 _ (List.mem_of_getElem? (i := 2) rfl), rfl⟩
set_option maxRecDepth 100000 in
theorem moX11_accepts : am_MO mX11_accepts := ⟨wr46 _ (List.mem_of_getElem? (i := 4) rfl), by decide +kernel, ⟨by decide +kernel, by decide +kernel⟩, wr1 _ (List.mem_of_getElem? (i := 2) rfl), rfl⟩
set_option maxRecDepth 100000 in
theorem moX11_again : am_MO mX11_again := ⟨wr40 _ (List.mem_of_getElem? (i := 5) rfl), by decide +kernel, ⟨by decide +kernel, by decide +kernel⟩, wr1 _ (List.mem_of_getElem? (i := 2) rfl), rfl⟩
set_option maxRecDepth 100000 in
theorem moX11_agrees : am_MO mX11_agrees := ⟨wr42 _ (List.mem_of_getElem? (i := 18) rfl), by decide +kernel, ⟨by decide +kernel, by decide +kernel⟩, wr1 _ (List.mem_of_getElem? (i := 2) rfl), rfl⟩
set_option maxRecDepth 100000 in
theorem moX11_back : am_MO mX11_back := ⟨wr47 _ (List.mem_of_getElem? (i := 1) rfl), by decide +kernel, ⟨by decide +kernel, by decide +kernel⟩, wr1 _ (List.mem_of_getElem? (i := 2) rfl), rfl⟩
set_option maxRecDepth 100000 in
theorem moX11_card : am_MO mX11_card := ⟨wr38 _ (List.mem_of_getElem? (i := 5) rfl), by decide +kernel, ⟨by decide +kernel, by decide +kernel⟩, wr1 _ (List.mem_of_getElem? (i := 2) rfl), rfl⟩
set_option maxRecDepth 100000 in
theorem moX11_column : am_MO mX11_column := ⟨wr37 _ (List.mem_of_getElem? (i := 21) rfl), by decide +kernel, ⟨by decide +kernel, by decide +kernel⟩, wr1 _ (List.mem_of_getElem? (i := 2) rfl), rfl⟩
set_option maxRecDepth 100000 in
theorem moX11_control : am_MO mX11_control := ⟨wr12 _ (List.mem_of_getElem? (i := 17) rfl), by decide +kernel, ⟨by decide +kernel, by decide +kernel⟩, wr1 _ (List.mem_of_getElem? (i := 2) rfl), rfl⟩
set_option maxRecDepth 100000 in
theorem moX11_differs : am_MO mX11_differs := ⟨wr39 _ (List.mem_of_getElem? (i := 9) rfl), by decide +kernel, ⟨by decide +kernel, by decide +kernel⟩, wr1 _ (List.mem_of_getElem? (i := 2) rfl), rfl⟩
set_option maxRecDepth 100000 in
theorem moX11_fault : am_MO mX11_fault := ⟨wr34 _ (List.mem_of_getElem? (i := 9) rfl), by decide +kernel, ⟨by decide +kernel, by decide +kernel⟩, wr1 _ (List.mem_of_getElem? (i := 2) rfl), rfl⟩
set_option maxRecDepth 100000 in
theorem moX11_faultOfCard : am_MO mX11_faultOfCard := ⟨wr25 _ (List.mem_of_getElem? (i := 14) rfl), by decide +kernel, ⟨by decide +kernel, by decide +kernel⟩, wr1 _ (List.mem_of_getElem? (i := 2) rfl), rfl⟩
set_option maxRecDepth 100000 in
theorem moX11_feedDeck : am_MO mX11_feedDeck := ⟨wr25 _ (List.mem_of_getElem? (i := 5) rfl), by decide +kernel, ⟨by decide +kernel, by decide +kernel⟩, wr1 _ (List.mem_of_getElem? (i := 2) rfl), rfl⟩
set_option maxRecDepth 100000 in
theorem moX11_field : am_MO mX11_field := ⟨wr37 _ (List.mem_of_getElem? (i := 13) rfl), by decide +kernel, ⟨by decide +kernel, by decide +kernel⟩, wr1 _ (List.mem_of_getElem? (i := 2) rfl), rfl⟩
set_option maxRecDepth 100000 in
theorem moX11_fits : am_MO mX11_fits := ⟨wr8 _ (List.mem_of_getElem? (i := 2) rfl), by decide +kernel, ⟨by decide +kernel, by decide +kernel⟩, wr1 _ (List.mem_of_getElem? (i := 2) rfl), rfl⟩
set_option maxRecDepth 100000 in
theorem moX11_init : am_MO mX11_init := ⟨wr1 _ (List.mem_of_getElem? (i := 8) rfl), by decide +kernel, ⟨by decide +kernel, by decide +kernel⟩, wr1 _ (List.mem_of_getElem? (i := 2) rfl), rfl⟩
set_option maxRecDepth 100000 in
theorem moX11_isColumn : am_MO mX11_isColumn := ⟨wr8 _ (List.mem_of_getElem? (i := 8) rfl), by decide +kernel, ⟨by decide +kernel, by decide +kernel⟩, wr1 _ (List.mem_of_getElem? (i := 2) rfl), rfl⟩
set_option maxRecDepth 100000 in
theorem moX11_isControl : am_MO mX11_isControl := ⟨wr12 _ (List.mem_of_getElem? (i := 23) rfl), by decide +kernel, ⟨by decide +kernel, by decide +kernel⟩, wr1 _ (List.mem_of_getElem? (i := 2) rfl), rfl⟩
set_option maxRecDepth 100000 in
theorem moX11_isDeckInOrder : am_MO mX11_isDeckInOrder := ⟨wr36 _ (List.mem_of_getElem? (i := 1) rfl), by decide +kernel, ⟨by decide +kernel, by decide +kernel⟩, wr1 _ (List.mem_of_getElem? (i := 2) rfl), rfl⟩
set_option maxRecDepth 100000 in
theorem moX11_isField : am_MO mX11_isField := ⟨wr7 _ (List.mem_of_getElem? (i := 23) rfl), by decide +kernel, ⟨by decide +kernel, by decide +kernel⟩, wr1 _ (List.mem_of_getElem? (i := 2) rfl), rfl⟩
set_option maxRecDepth 100000 in
theorem moX11_isSetting : am_MO mX11_isSetting := ⟨wr11 _ (List.mem_of_getElem? (i := 22) rfl), by decide +kernel, ⟨by decide +kernel, by decide +kernel⟩, wr1 _ (List.mem_of_getElem? (i := 2) rfl), rfl⟩
set_option maxRecDepth 100000 in
theorem moX11_isWithin : am_MO mX11_isWithin := ⟨wr8 _ (List.mem_of_getElem? (i := 5) rfl), by decide +kernel, ⟨by decide +kernel, by decide +kernel⟩, wr1 _ (List.mem_of_getElem? (i := 2) rfl), rfl⟩
set_option maxRecDepth 100000 in
theorem moX11_keep : am_MO mX11_keep := ⟨wr46 _ (List.mem_of_getElem? (i := 12) rfl), by decide +kernel, ⟨by decide +kernel, by decide +kernel⟩, wr1 _ (List.mem_of_getElem? (i := 2) rfl), rfl⟩
set_option maxRecDepth 100000 in
theorem moX11_lay : am_MO mX11_lay := ⟨wr7 _ (List.mem_of_getElem? (i := 18) rfl), by decide +kernel, ⟨by decide +kernel, by decide +kernel⟩, wr1 _ (List.mem_of_getElem? (i := 2) rfl), rfl⟩
set_option maxRecDepth 100000 in
theorem moX11_line : am_MO mX11_line := ⟨wr38 _ (List.mem_of_getElem? (i := 13) rfl), by decide +kernel, ⟨by decide +kernel, by decide +kernel⟩, wr1 _ (List.mem_of_getElem? (i := 2) rfl), rfl⟩
set_option maxRecDepth 100000 in
theorem moX11_mark : am_MO mX11_mark := ⟨wr21 _ (List.mem_of_getElem? (i := 8) rfl), by decide +kernel, ⟨by decide +kernel, by decide +kernel⟩, wr1 _ (List.mem_of_getElem? (i := 2) rfl), rfl⟩
set_option maxRecDepth 100000 in
theorem moX11_mean : am_MO mX11_mean := ⟨wr44 _ (List.mem_of_getElem? (i := 18) rfl), by decide +kernel, ⟨by decide +kernel, by decide +kernel⟩, wr1 _ (List.mem_of_getElem? (i := 2) rfl), rfl⟩
set_option maxRecDepth 100000 in
theorem moX11_move : am_MO mX11_move := ⟨wr19 _ (List.mem_of_getElem? (i := 22) rfl), by decide +kernel, ⟨by decide +kernel, by decide +kernel⟩, wr1 _ (List.mem_of_getElem? (i := 2) rfl), rfl⟩
set_option maxRecDepth 100000 in
theorem moX11_pass : am_MO mX11_pass := ⟨wr21 _ (List.mem_of_getElem? (i := 18) rfl), by decide +kernel, ⟨by decide +kernel, by decide +kernel⟩, wr1 _ (List.mem_of_getElem? (i := 2) rfl), rfl⟩
set_option maxRecDepth 100000 in
theorem moX11_passByKeyColumns : am_MO mX11_passByKeyColumns := ⟨wr45 _ (List.mem_of_getElem? (i := 8) rfl), by decide +kernel, ⟨by decide +kernel, by decide +kernel⟩, wr1 _ (List.mem_of_getElem? (i := 2) rfl), rfl⟩
set_option maxRecDepth 100000 in
theorem moX11_passes : am_MO mX11_passes := ⟨wr45 _ (List.mem_of_getElem? (i := 4) rfl), by decide +kernel, ⟨by decide +kernel, by decide +kernel⟩, wr1 _ (List.mem_of_getElem? (i := 2) rfl), rfl⟩
set_option maxRecDepth 100000 in
theorem moX11_printJudged : am_MO mX11_printJudged := ⟨wr26 _ (List.mem_of_getElem? (i := 19) rfl), by decide +kernel, ⟨by decide +kernel, by decide +kernel⟩, wr1 _ (List.mem_of_getElem? (i := 2) rfl), rfl⟩
set_option maxRecDepth 100000 in
theorem moX11_punch : am_MO mX11_punch := ⟨wr13 _ (List.mem_of_getElem? (i := 8) rfl), by decide +kernel, ⟨by decide +kernel, by decide +kernel⟩, wr1 _ (List.mem_of_getElem? (i := 2) rfl), rfl⟩
set_option maxRecDepth 100000 in
theorem moX11_ranked : am_MO mX11_ranked := ⟨wr43 _ (List.mem_of_getElem? (i := 6) rfl), by decide +kernel, ⟨by decide +kernel, by decide +kernel⟩, wr1 _ (List.mem_of_getElem? (i := 2) rfl), rfl⟩
set_option maxRecDepth 100000 in
theorem moX11_reason : am_MO mX11_reason := ⟨wr38 _ (List.mem_of_getElem? (i := 23) rfl), by decide +kernel, ⟨by decide +kernel, by decide +kernel⟩, wr1 _ (List.mem_of_getElem? (i := 2) rfl), rfl⟩
set_option maxRecDepth 100000 in
theorem moX11_refusal : am_MO mX11_refusal := ⟨wr25 _ (List.mem_of_getElem? (i := 10) rfl), by decide +kernel, ⟨by decide +kernel, by decide +kernel⟩, wr1 _ (List.mem_of_getElem? (i := 2) rfl), rfl⟩
set_option maxRecDepth 100000 in
theorem moX11_repunch : am_MO mX11_repunch := ⟨wr20 _ (List.mem_of_getElem? (i := 19) rfl), by decide +kernel, ⟨by decide +kernel, by decide +kernel⟩, wr1 _ (List.mem_of_getElem? (i := 2) rfl), rfl⟩
set_option maxRecDepth 100000 in
theorem moX11_run : am_MO mX11_run := ⟨wr24 _ (List.mem_of_getElem? (i := 3) rfl), by decide +kernel, ⟨by decide +kernel, by decide +kernel⟩, wr1 _ (List.mem_of_getElem? (i := 2) rfl), rfl⟩
set_option maxRecDepth 100000 in
theorem moX11_set : am_MO mX11_set := ⟨wr11 _ (List.mem_of_getElem? (i := 17) rfl), by decide +kernel, ⟨by decide +kernel, by decide +kernel⟩, wr1 _ (List.mem_of_getElem? (i := 2) rfl), rfl⟩
set_option maxRecDepth 100000 in
theorem moX11_setting : am_MO mX11_setting := ⟨wr37 _ (List.mem_of_getElem? (i := 5) rfl), by decide +kernel, ⟨by decide +kernel, by decide +kernel⟩, wr1 _ (List.mem_of_getElem? (i := 2) rfl), rfl⟩
set_option maxRecDepth 100000 in
theorem moX11_sort : am_MO mX11_sort := ⟨wr23 _ (List.mem_of_getElem? (i := 18) rfl), by decide +kernel, ⟨by decide +kernel, by decide +kernel⟩, wr1 _ (List.mem_of_getElem? (i := 2) rfl), rfl⟩
set_option maxRecDepth 100000 in
theorem moX11_take : am_MO mX11_take := ⟨wr19 _ (List.mem_of_getElem? (i := 1) rfl), by decide +kernel, ⟨by decide +kernel, by decide +kernel⟩, wr1 _ (List.mem_of_getElem? (i := 2) rfl), rfl⟩
set_option maxRecDepth 100000 in
theorem moX11_told : am_MO mX11_told := ⟨wr34 _ (List.mem_of_getElem? (i := 19) rfl), by decide +kernel, ⟨by decide +kernel, by decide +kernel⟩, wr1 _ (List.mem_of_getElem? (i := 2) rfl), rfl⟩
set_option maxRecDepth 100000 in
theorem moX11_undo : am_MO mX11_undo := ⟨wr32 _ (List.mem_of_getElem? (i := 9) rfl), by decide +kernel, ⟨by decide +kernel, by decide +kernel⟩, wr1 _ (List.mem_of_getElem? (i := 2) rfl), rfl⟩
set_option maxRecDepth 100000 in
theorem moX11_wipe : am_MO mX11_wipe := ⟨wr33 _ (List.mem_of_getElem? (i := 21) rfl), by decide +kernel, ⟨by decide +kernel, by decide +kernel⟩, wr1 _ (List.mem_of_getElem? (i := 2) rfl), rfl⟩
set_option maxRecDepth 100000 in
theorem moX11_write : am_MO mX11_write := ⟨wr33 _ (List.mem_of_getElem? (i := 5) rfl), by decide +kernel, ⟨by decide +kernel, by decide +kernel⟩, wr1 _ (List.mem_of_getElem? (i := 2) rfl), rfl⟩
set_option maxRecDepth 100000 in
theorem moX12_accepted : am_MO mX12_accepted := ⟨wr31 _ (List.mem_of_getElem? (i := 5) rfl), by decide +kernel, ⟨by decide +kernel, by decide +kernel⟩, wr1 _ (List.mem_of_getElem? (i := 5) rfl), rfl⟩
set_option maxRecDepth 100000 in
theorem moX12_accepts : am_MO mX12_accepts := ⟨wr46 _ (List.mem_of_getElem? (i := 8) rfl), by decide +kernel, ⟨by decide +kernel, by decide +kernel⟩, wr1 _ (List.mem_of_getElem? (i := 5) rfl), rfl⟩
set_option maxRecDepth 100000 in
theorem moX12_again : am_MO mX12_again := ⟨wr41 _ (List.mem_of_getElem? (i := 22) rfl), by decide +kernel, ⟨by decide +kernel, by decide +kernel⟩, wr1 _ (List.mem_of_getElem? (i := 5) rfl), rfl⟩
set_option maxRecDepth 100000 in
theorem moX12_agrees : am_MO mX12_agrees := ⟨wr42 _ (List.mem_of_getElem? (i := 22) rfl), by decide +kernel, ⟨by decide +kernel, by decide +kernel⟩, wr1 _ (List.mem_of_getElem? (i := 5) rfl), rfl⟩
set_option maxRecDepth 100000 in
theorem moX12_back : am_MO mX12_back := ⟨wr47 _ (List.mem_of_getElem? (i := 5) rfl), by decide +kernel, ⟨by decide +kernel, by decide +kernel⟩, wr1 _ (List.mem_of_getElem? (i := 5) rfl), rfl⟩
set_option maxRecDepth 100000 in
theorem moX12_beginPasses : am_MO mX12_beginPasses := ⟨wr23 _ (List.mem_of_getElem? (i := 6) rfl), by decide +kernel, ⟨by decide +kernel, by decide +kernel⟩, wr1 _ (List.mem_of_getElem? (i := 5) rfl), rfl⟩
set_option maxRecDepth 100000 in
theorem moX12_breakLevel : am_MO mX12_breakLevel := ⟨wr31 _ (List.mem_of_getElem? (i := 13) rfl), by decide +kernel, ⟨by decide +kernel, by decide +kernel⟩, wr1 _ (List.mem_of_getElem? (i := 5) rfl), rfl⟩
set_option maxRecDepth 100000 in
theorem moX12_breaks : am_MO mX12_breaks := ⟨wr31 _ (List.mem_of_getElem? (i := 9) rfl), by decide +kernel, ⟨by decide +kernel, by decide +kernel⟩, wr1 _ (List.mem_of_getElem? (i := 5) rfl), rfl⟩
set_option maxRecDepth 100000 in
theorem moX12_card : am_MO mX12_card := ⟨wr38 _ (List.mem_of_getElem? (i := 9) rfl), by decide +kernel, ⟨by decide +kernel, by decide +kernel⟩, wr1 _ (List.mem_of_getElem? (i := 5) rfl), rfl⟩
set_option maxRecDepth 100000 in
theorem moX12_column : am_MO mX12_column := ⟨wr38 _ (List.mem_of_getElem? (i := 1) rfl), by decide +kernel, ⟨by decide +kernel, by decide +kernel⟩, wr1 _ (List.mem_of_getElem? (i := 5) rfl), rfl⟩
set_option maxRecDepth 100000 in
theorem moX12_control : am_MO mX12_control := ⟨wr13 _ (List.mem_of_getElem? (i := 3) rfl), by decide +kernel, ⟨by decide +kernel, by decide +kernel⟩, wr1 _ (List.mem_of_getElem? (i := 5) rfl), rfl⟩
set_option maxRecDepth 100000 in
theorem moX12_copyCard : am_MO mX12_copyCard := ⟨wr18 _ (List.mem_of_getElem? (i := 13) rfl), by decide +kernel, ⟨by decide +kernel, by decide +kernel⟩, wr1 _ (List.mem_of_getElem? (i := 5) rfl), rfl⟩
set_option maxRecDepth 100000 in
theorem moX12_differs : am_MO mX12_differs := ⟨wr40 _ (List.mem_of_getElem? (i := 1) rfl), by decide +kernel, ⟨by decide +kernel, by decide +kernel⟩, wr1 _ (List.mem_of_getElem? (i := 5) rfl), rfl⟩
set_option maxRecDepth 100000 in
theorem moX12_due : am_MO mX12_due := ⟨wr18 _ (List.mem_of_getElem? (i := 21) rfl), by decide +kernel, ⟨by decide +kernel, by decide +kernel⟩, wr1 _ (List.mem_of_getElem? (i := 5) rfl), rfl⟩
set_option maxRecDepth 100000 in
theorem moX12_fails : am_MO mX12_fails := ⟨wr18 _ (List.mem_of_getElem? (i := 2) rfl), by decide +kernel, ⟨by decide +kernel, by decide +kernel⟩, wr1 _ (List.mem_of_getElem? (i := 5) rfl), rfl⟩
set_option maxRecDepth 100000 in
theorem moX12_fault : am_MO mX12_fault := ⟨wr34 _ (List.mem_of_getElem? (i := 15) rfl), by decide +kernel, ⟨by decide +kernel, by decide +kernel⟩, wr1 _ (List.mem_of_getElem? (i := 5) rfl), rfl⟩
set_option maxRecDepth 100000 in
theorem moX12_field : am_MO mX12_field := ⟨wr37 _ (List.mem_of_getElem? (i := 17) rfl), by decide +kernel, ⟨by decide +kernel, by decide +kernel⟩, wr1 _ (List.mem_of_getElem? (i := 5) rfl), rfl⟩
set_option maxRecDepth 100000 in
theorem moX12_fieldOf : am_MO mX12_fieldOf := ⟨wr18 _ (List.mem_of_getElem? (i := 5) rfl), by decide +kernel, ⟨by decide +kernel, by decide +kernel⟩, wr1 _ (List.mem_of_getElem? (i := 5) rfl), rfl⟩
set_option maxRecDepth 100000 in
theorem moX12_fill : am_MO mX12_fill := ⟨wr32 _ (List.mem_of_getElem? (i := 1) rfl), by decide +kernel, ⟨by decide +kernel, by decide +kernel⟩, wr1 _ (List.mem_of_getElem? (i := 5) rfl), rfl⟩
set_option maxRecDepth 100000 in
theorem moX12_first : am_MO mX12_first := ⟨wr11 _ (List.mem_of_getElem? (i := 13) rfl), by decide +kernel, ⟨by decide +kernel, by decide +kernel⟩, wr1 _ (List.mem_of_getElem? (i := 5) rfl), rfl⟩
set_option maxRecDepth 100000 in
theorem moX12_fromHeld : am_MO mX12_fromHeld := ⟨wr20 _ (List.mem_of_getElem? (i := 15) rfl), by decide +kernel, ⟨by decide +kernel, by decide +kernel⟩, wr1 _ (List.mem_of_getElem? (i := 5) rfl), rfl⟩
set_option maxRecDepth 100000 in
theorem moX12_holdDeck : am_MO mX12_holdDeck := ⟨wr20 _ (List.mem_of_getElem? (i := 11) rfl), by decide +kernel, ⟨by decide +kernel, by decide +kernel⟩, wr1 _ (List.mem_of_getElem? (i := 5) rfl), rfl⟩
set_option maxRecDepth 100000 in
theorem moX12_inSecondWay : am_MO mX12_inSecondWay := ⟨wr42 _ (List.mem_of_getElem? (i := 2) rfl), by decide +kernel, ⟨by decide +kernel, by decide +kernel⟩, wr1 _ (List.mem_of_getElem? (i := 5) rfl), rfl⟩
set_option maxRecDepth 100000 in
theorem moX12_init : am_MO mX12_init := ⟨wr6 _ (List.mem_of_getElem? (i := 17) rfl), by decide +kernel, ⟨by decide +kernel, by decide +kernel⟩, wr1 _ (List.mem_of_getElem? (i := 5) rfl), rfl⟩
set_option maxRecDepth 100000 in
theorem moX12_isAlike : am_MO mX12_isAlike := ⟨wr42 _ (List.mem_of_getElem? (i := 10) rfl), by decide +kernel, ⟨by decide +kernel, by decide +kernel⟩, wr1 _ (List.mem_of_getElem? (i := 5) rfl), rfl⟩
set_option maxRecDepth 100000 in
theorem moX12_isCard : am_MO mX12_isCard := ⟨wr19 _ (List.mem_of_getElem? (i := 18) rfl), by decide +kernel, ⟨by decide +kernel, by decide +kernel⟩, wr1 _ (List.mem_of_getElem? (i := 5) rfl), rfl⟩
set_option maxRecDepth 100000 in
theorem moX12_isColumn : am_MO mX12_isColumn := ⟨wr21 _ (List.mem_of_getElem? (i := 4) rfl), by decide +kernel, ⟨by decide +kernel, by decide +kernel⟩, wr1 _ (List.mem_of_getElem? (i := 5) rfl), rfl⟩
set_option maxRecDepth 100000 in
theorem moX12_isField : am_MO mX12_isField := ⟨wr11 _ (List.mem_of_getElem? (i := 1) rfl), by decide +kernel, ⟨by decide +kernel, by decide +kernel⟩, wr1 _ (List.mem_of_getElem? (i := 5) rfl), rfl⟩
set_option maxRecDepth 100000 in
theorem moX12_isImage : am_MO mX12_isImage := ⟨wr46 _ (List.mem_of_getElem? (i := 21) rfl), by decide +kernel, ⟨by decide +kernel, by decide +kernel⟩, wr1 _ (List.mem_of_getElem? (i := 5) rfl), rfl⟩
set_option maxRecDepth 100000 in
theorem moX12_isIn : am_MO mX12_isIn := ⟨wr11 _ (List.mem_of_getElem? (i := 4) rfl), by decide +kernel, ⟨by decide +kernel, by decide +kernel⟩, wr1 _ (List.mem_of_getElem? (i := 5) rfl), rfl⟩
set_option maxRecDepth 100000 in
theorem moX12_isLast : am_MO mX12_isLast := ⟨wr42 _ (List.mem_of_getElem? (i := 6) rfl), by decide +kernel, ⟨by decide +kernel, by decide +kernel⟩, wr1 _ (List.mem_of_getElem? (i := 5) rfl), rfl⟩
set_option maxRecDepth 100000 in
theorem moX12_isOf : am_MO mX12_isOf := ⟨wr12 _ (List.mem_of_getElem? (i := 9) rfl), by decide +kernel, ⟨by decide +kernel, by decide +kernel⟩, wr1 _ (List.mem_of_getElem? (i := 5) rfl), rfl⟩
set_option maxRecDepth 100000 in
theorem moX12_isOrdered : am_MO mX12_isOrdered := ⟨wr37 _ (List.mem_of_getElem? (i := 1) rfl), by decide +kernel, ⟨by decide +kernel, by decide +kernel⟩, wr1 _ (List.mem_of_getElem? (i := 5) rfl), rfl⟩
set_option maxRecDepth 100000 in
theorem moX12_keep : am_MO mX12_keep := ⟨wr46 _ (List.mem_of_getElem? (i := 17) rfl), by decide +kernel, ⟨by decide +kernel, by decide +kernel⟩, wr1 _ (List.mem_of_getElem? (i := 5) rfl), rfl⟩
set_option maxRecDepth 100000 in
theorem moX12_key : am_MO mX12_key := ⟨wr30 _ (List.mem_of_getElem? (i := 19) rfl), by decide +kernel, ⟨by decide +kernel, by decide +kernel⟩, wr1 _ (List.mem_of_getElem? (i := 5) rfl), rfl⟩
set_option maxRecDepth 100000 in
theorem moX12_keyOf : am_MO mX12_keyOf := ⟨wr44 _ (List.mem_of_getElem? (i := 14) rfl), by decide +kernel, ⟨by decide +kernel, by decide +kernel⟩, wr1 _ (List.mem_of_getElem? (i := 5) rfl), rfl⟩
set_option maxRecDepth 100000 in
theorem moX12_lay : am_MO mX12_lay := ⟨wr10 _ (List.mem_of_getElem? (i := 21) rfl), by decide +kernel, ⟨by decide +kernel, by decide +kernel⟩, wr1 _ (List.mem_of_getElem? (i := 5) rfl), rfl⟩
set_option maxRecDepth 100000 in
theorem moX12_layField : am_MO mX12_layField := ⟨wr7 _ (List.mem_of_getElem? (i := 14) rfl), by decide +kernel, ⟨by decide +kernel, by decide +kernel⟩, wr1 _ (List.mem_of_getElem? (i := 5) rfl), rfl⟩
set_option maxRecDepth 100000 in
theorem moX12_line : am_MO mX12_line := ⟨wr38 _ (List.mem_of_getElem? (i := 19) rfl), by decide +kernel, ⟨by decide +kernel, by decide +kernel⟩, wr1 _ (List.mem_of_getElem? (i := 5) rfl), rfl⟩
set_option maxRecDepth 100000 in
theorem moX12_look : am_MO mX12_look := ⟨wr30 _ (List.mem_of_getElem? (i := 12) rfl), by decide +kernel, ⟨by decide +kernel, by decide +kernel⟩, wr1 _ (List.mem_of_getElem? (i := 5) rfl), rfl⟩
set_option maxRecDepth 100000 in
theorem moX12_makePasses : am_MO mX12_makePasses := ⟨wr45 _ (List.mem_of_getElem? (i := 20) rfl), by decide +kernel, ⟨by decide +kernel, by decide +kernel⟩, wr1 _ (List.mem_of_getElem? (i := 5) rfl), rfl⟩
set_option maxRecDepth 100000 in
theorem moX12_mark : am_MO mX12_mark := ⟨wr21 _ (List.mem_of_getElem? (i := 14) rfl), by decide +kernel, ⟨by decide +kernel, by decide +kernel⟩, wr1 _ (List.mem_of_getElem? (i := 5) rfl), rfl⟩
set_option maxRecDepth 100000 in
theorem moX12_mean : am_MO mX12_mean := ⟨wr44 _ (List.mem_of_getElem? (i := 23) rfl), by decide +kernel, ⟨by decide +kernel, by decide +kernel⟩, wr1 _ (List.mem_of_getElem? (i := 5) rfl), rfl⟩
set_option maxRecDepth 100000 in
theorem moX12_move : am_MO mX12_move := ⟨wr20 _ (List.mem_of_getElem? (i := 7) rfl), by decide +kernel, ⟨by decide +kernel, by decide +kernel⟩, wr1 _ (List.mem_of_getElem? (i := 5) rfl), rfl⟩
set_option maxRecDepth 100000 in
theorem moX12_movedCards : am_MO mX12_movedCards := ⟨wr23 _ (List.mem_of_getElem? (i := 14) rfl), by decide +kernel, ⟨by decide +kernel, by decide +kernel⟩, wr1 _ (List.mem_of_getElem? (i := 5) rfl), rfl⟩
set_option maxRecDepth 100000 in
theorem moX12_of : am_MO mX12_of := ⟨wr30 _ (List.mem_of_getElem? (i := 4) rfl), by decide +kernel, ⟨by decide +kernel, by decide +kernel⟩, wr1 _ (List.mem_of_getElem? (i := 5) rfl), rfl⟩
set_option maxRecDepth 100000 in
theorem moX12_ofAll : am_MO mX12_ofAll := ⟨wr43 _ (List.mem_of_getElem? (i := 2) rfl), by decide +kernel, ⟨by decide +kernel, by decide +kernel⟩, wr1 _ (List.mem_of_getElem? (i := 5) rfl), rfl⟩
set_option maxRecDepth 100000 in
theorem moX12_ofKey : am_MO mX12_ofKey := ⟨wr42 _ (List.mem_of_getElem? (i := 14) rfl), by decide +kernel, ⟨by decide +kernel, by decide +kernel⟩, wr1 _ (List.mem_of_getElem? (i := 5) rfl), rfl⟩
set_option maxRecDepth 100000 in
theorem moX12_overtime : am_MO mX12_overtime := ⟨wr31 _ (List.mem_of_getElem? (i := 16) rfl), by decide +kernel, ⟨by decide +kernel, by decide +kernel⟩, wr1 _ (List.mem_of_getElem? (i := 5) rfl), rfl⟩
set_option maxRecDepth 100000 in
theorem moX12_ownReason : am_MO mX12_ownReason := ⟨wr30 _ (List.mem_of_getElem? (i := 0) rfl), by decide +kernel, ⟨by decide +kernel, by decide +kernel⟩, wr1 _ (List.mem_of_getElem? (i := 5) rfl), rfl⟩
set_option maxRecDepth 100000 in
theorem moX12_pass : am_MO mX12_pass := ⟨wr23 _ (List.mem_of_getElem? (i := 2) rfl), by decide +kernel, ⟨by decide +kernel, by decide +kernel⟩, wr1 _ (List.mem_of_getElem? (i := 5) rfl), rfl⟩
set_option maxRecDepth 100000 in
theorem moX12_passBy : am_MO mX12_passBy := ⟨wr23 _ (List.mem_of_getElem? (i := 10) rfl), by decide +kernel, ⟨by decide +kernel, by decide +kernel⟩, wr1 _ (List.mem_of_getElem? (i := 5) rfl), rfl⟩
set_option maxRecDepth 100000 in
theorem moX12_passes : am_MO mX12_passes := ⟨wr45 _ (List.mem_of_getElem? (i := 12) rfl), by decide +kernel, ⟨by decide +kernel, by decide +kernel⟩, wr1 _ (List.mem_of_getElem? (i := 5) rfl), rfl⟩
set_option maxRecDepth 100000 in
theorem moX12_printLine : am_MO mX12_printLine := ⟨wr31 _ (List.mem_of_getElem? (i := 21) rfl), by decide +kernel, ⟨by decide +kernel, by decide +kernel⟩, wr1 _ (List.mem_of_getElem? (i := 5) rfl), rfl⟩
set_option maxRecDepth 100000 in
theorem moX12_printReport : am_MO mX12_printReport := ⟨wr31 _ (List.mem_of_getElem? (i := 1) rfl), by decide +kernel, ⟨by decide +kernel, by decide +kernel⟩, wr1 _ (List.mem_of_getElem? (i := 5) rfl), rfl⟩
set_option maxRecDepth 100000 in
theorem moX12_punch : am_MO mX12_punch := ⟨wr17 _ (List.mem_of_getElem? (i := 13) rfl), by decide +kernel, ⟨by decide +kernel, by decide +kernel⟩, wr1 _ (List.mem_of_getElem? (i := 5) rfl), rfl⟩
set_option maxRecDepth 100000 in
theorem moX12_punchSeen : am_MO mX12_punchSeen := ⟨wr18 _ (List.mem_of_getElem? (i := 17) rfl), by decide +kernel, ⟨by decide +kernel, by decide +kernel⟩, wr1 _ (List.mem_of_getElem? (i := 5) rfl), rfl⟩
set_option maxRecDepth 100000 in
theorem moX12_put : am_MO mX12_put := ⟨wr12 _ (List.mem_of_getElem? (i := 13) rfl), by decide +kernel, ⟨by decide +kernel, by decide +kernel⟩, wr1 _ (List.mem_of_getElem? (i := 5) rfl), rfl⟩
set_option maxRecDepth 100000 in
theorem moX12_putAside : am_MO mX12_putAside := ⟨wr45 _ (List.mem_of_getElem? (i := 16) rfl), by decide +kernel, ⟨by decide +kernel, by decide +kernel⟩, wr1 _ (List.mem_of_getElem? (i := 5) rfl), rfl⟩
set_option maxRecDepth 100000 in
theorem moX12_putBack : am_MO mX12_putBack := ⟨wr46 _ (List.mem_of_getElem? (i := 0) rfl), by decide +kernel, ⟨by decide +kernel, by decide +kernel⟩, wr1 _ (List.mem_of_getElem? (i := 5) rfl), rfl⟩
set_option maxRecDepth 100000 in
theorem moX12_rank : am_MO mX12_rank := ⟨wr44 _ (List.mem_of_getElem? (i := 10) rfl), by decide +kernel, ⟨by decide +kernel, by decide +kernel⟩, wr1 _ (List.mem_of_getElem? (i := 5) rfl), rfl⟩
set_option maxRecDepth 100000 in
theorem moX12_ranked : am_MO mX12_ranked := ⟨wr44 _ (List.mem_of_getElem? (i := 6) rfl), by decide +kernel, ⟨by decide +kernel, by decide +kernel⟩, wr1 _ (List.mem_of_getElem? (i := 5) rfl), rfl⟩
set_option maxRecDepth 100000 in
theorem moX12_read : am_MO mX12_read := ⟨wr30 _ (List.mem_of_getElem? (i := 8) rfl), by decide +kernel, ⟨by decide +kernel, by decide +kernel⟩, wr1 _ (List.mem_of_getElem? (i := 5) rfl), rfl⟩
set_option maxRecDepth 100000 in
theorem moX12_readText : am_MO mX12_readText := ⟨wr17 _ (List.mem_of_getElem? (i := 21) rfl), by decide +kernel, ⟨by decide +kernel, by decide +kernel⟩, wr1 _ (List.mem_of_getElem? (i := 5) rfl), rfl⟩
set_option maxRecDepth 100000 in
theorem moX12_reason : am_MO mX12_reason := ⟨wr39 _ (List.mem_of_getElem? (i := 5) rfl), by decide +kernel, ⟨by decide +kernel, by decide +kernel⟩, wr1 _ (List.mem_of_getElem? (i := 5) rfl), rfl⟩
set_option maxRecDepth 100000 in
theorem moX12_refused : am_MO mX12_refused := ⟨wr36 _ (List.mem_of_getElem? (i := 21) rfl), by decide +kernel, ⟨by decide +kernel, by decide +kernel⟩, wr1 _ (List.mem_of_getElem? (i := 5) rfl), rfl⟩
set_option maxRecDepth 100000 in
theorem moX12_remember : am_MO mX12_remember := ⟨wr11 _ (List.mem_of_getElem? (i := 8) rfl), by decide +kernel, ⟨by decide +kernel, by decide +kernel⟩, wr1 _ (List.mem_of_getElem? (i := 5) rfl), rfl⟩
set_option maxRecDepth 100000 in
theorem moX12_repunch : am_MO mX12_repunch := ⟨wr21 _ (List.mem_of_getElem? (i := 1) rfl), by decide +kernel, ⟨by decide +kernel, by decide +kernel⟩, wr1 _ (List.mem_of_getElem? (i := 5) rfl), rfl⟩
set_option maxRecDepth 100000 in
theorem moX12_run : am_MO mX12_run := ⟨wr29 _ (List.mem_of_getElem? (i := 15) rfl), by decide +kernel, ⟨by decide +kernel, by decide +kernel⟩, wr1 _ (List.mem_of_getElem? (i := 5) rfl), rfl⟩
set_option maxRecDepth 100000 in
theorem moX12_runCards : am_MO mX12_runCards := ⟨wr29 _ (List.mem_of_getElem? (i := 19) rfl), by decide +kernel, ⟨by decide +kernel, by decide +kernel⟩, wr1 _ (List.mem_of_getElem? (i := 5) rfl), rfl⟩
set_option maxRecDepth 100000 in
theorem moX12_set : am_MO mX12_set := ⟨wr12 _ (List.mem_of_getElem? (i := 6) rfl), by decide +kernel, ⟨by decide +kernel, by decide +kernel⟩, wr1 _ (List.mem_of_getElem? (i := 5) rfl), rfl⟩
set_option maxRecDepth 100000 in
theorem moX12_setting : am_MO mX12_setting := ⟨wr37 _ (List.mem_of_getElem? (i := 9) rfl), by decide +kernel, ⟨by decide +kernel, by decide +kernel⟩, wr1 _ (List.mem_of_getElem? (i := 5) rfl), rfl⟩
set_option maxRecDepth 100000 in
theorem moX12_sort : am_MO mX12_sort := ⟨wr23 _ (List.mem_of_getElem? (i := 23) rfl), by decide +kernel, ⟨by decide +kernel, by decide +kernel⟩, wr1 _ (List.mem_of_getElem? (i := 5) rfl), rfl⟩
set_option maxRecDepth 100000 in
theorem moX12_take : am_MO mX12_take := ⟨wr19 _ (List.mem_of_getElem? (i := 14) rfl), by decide +kernel, ⟨by decide +kernel, by decide +kernel⟩, wr1 _ (List.mem_of_getElem? (i := 5) rfl), rfl⟩
set_option maxRecDepth 100000 in
theorem moX12_told : am_MO mX12_told := ⟨wr36 _ (List.mem_of_getElem? (i := 17) rfl), by decide +kernel, ⟨by decide +kernel, by decide +kernel⟩, wr1 _ (List.mem_of_getElem? (i := 5) rfl), rfl⟩
set_option maxRecDepth 100000 in
theorem moX12_undo : am_MO mX12_undo := ⟨wr33 _ (List.mem_of_getElem? (i := 1) rfl), by decide +kernel, ⟨by decide +kernel, by decide +kernel⟩, wr1 _ (List.mem_of_getElem? (i := 5) rfl), rfl⟩
set_option maxRecDepth 100000 in
theorem moX12_valueOf : am_MO mX12_valueOf := ⟨wr30 _ (List.mem_of_getElem? (i := 16) rfl), by decide +kernel, ⟨by decide +kernel, by decide +kernel⟩, wr1 _ (List.mem_of_getElem? (i := 5) rfl), rfl⟩
set_option maxRecDepth 100000 in
theorem moX12_wageOf : am_MO mX12_wageOf := ⟨wr32 _ (List.mem_of_getElem? (i := 5) rfl), by decide +kernel, ⟨by decide +kernel, by decide +kernel⟩, wr1 _ (List.mem_of_getElem? (i := 5) rfl), rfl⟩
set_option maxRecDepth 100000 in
theorem moX12_width : am_MO mX12_width := ⟨wr18 _ (List.mem_of_getElem? (i := 9) rfl), by decide +kernel, ⟨by decide +kernel, by decide +kernel⟩, wr1 _ (List.mem_of_getElem? (i := 5) rfl), rfl⟩
set_option maxRecDepth 100000 in
theorem moX12_wipe : am_MO mX12_wipe := ⟨wr34 _ (List.mem_of_getElem? (i := 5) rfl), by decide +kernel, ⟨by decide +kernel, by decide +kernel⟩, wr1 _ (List.mem_of_getElem? (i := 5) rfl), rfl⟩
set_option maxRecDepth 100000 in
theorem moX12_write : am_MO mX12_write := ⟨wr33 _ (List.mem_of_getElem? (i := 17) rfl), by decide +kernel, ⟨by decide +kernel, by decide +kernel⟩, wr1 _ (List.mem_of_getElem? (i := 5) rfl), rfl⟩
set_option maxRecDepth 100000 in
theorem moX1_at : am_MO mX1_at := ⟨wr9 _ (List.mem_of_getElem? (i := 20) rfl), by decide +kernel, ⟨by decide +kernel, by decide +kernel⟩, wr3 _ (List.mem_of_getElem? (i := 6) rfl), rfl⟩
set_option maxRecDepth 100000 in
theorem moX1_carry : am_MO mX1_carry := ⟨wr16 _ (List.mem_of_getElem? (i := 0) rfl), by decide +kernel, ⟨by decide +kernel, by decide +kernel⟩, wr3 _ (List.mem_of_getElem? (i := 6) rfl), rfl⟩
set_option maxRecDepth 100000 in
theorem moX1_copyFrom : am_MO mX1_copyFrom := ⟨wr9 _ (List.mem_of_getElem? (i := 15) rfl), by decide +kernel, ⟨by decide +kernel, by decide +kernel⟩, wr3 _ (List.mem_of_getElem? (i := 6) rfl), rfl⟩
set_option maxRecDepth 100000 in
theorem moX1_has : am_MO mX1_has := ⟨wr19 _ (List.mem_of_getElem? (i := 5) rfl), by decide +kernel, ⟨by decide +kernel, by decide +kernel⟩, wr3 _ (List.mem_of_getElem? (i := 6) rfl), rfl⟩
set_option maxRecDepth 100000 in
theorem moX1_init : am_MO mX1_init := ⟨wr3 _ (List.mem_of_getElem? (i := 23) rfl), by decide +kernel, ⟨by decide +kernel, by decide +kernel⟩, wr3 _ (List.mem_of_getElem? (i := 6) rfl), rfl⟩
set_option maxRecDepth 100000 in
theorem moX1_insertBlank : am_MO mX1_insertBlank := ⟨wr15 _ (List.mem_of_getElem? (i := 19) rfl), by decide +kernel, ⟨by decide +kernel, by decide +kernel⟩, wr3 _ (List.mem_of_getElem? (i := 6) rfl), rfl⟩
set_option maxRecDepth 100000 in
theorem moX1_put : am_MO mX1_put := ⟨wr16 _ (List.mem_of_getElem? (i := 4) rfl), by decide +kernel, ⟨by decide +kernel, by decide +kernel⟩, wr3 _ (List.mem_of_getElem? (i := 6) rfl), rfl⟩
set_option maxRecDepth 100000 in
theorem moX1_remove : am_MO mX1_remove := ⟨wr19 _ (List.mem_of_getElem? (i := 9) rfl), by decide +kernel, ⟨by decide +kernel, by decide +kernel⟩, wr3 _ (List.mem_of_getElem? (i := 6) rfl), rfl⟩
set_option maxRecDepth 100000 in
theorem moX1_size : am_MO mX1_size := ⟨wr13 _ (List.mem_of_getElem? (i := 15) rfl), by decide +kernel, ⟨by decide +kernel, by decide +kernel⟩, wr3 _ (List.mem_of_getElem? (i := 6) rfl), rfl⟩
set_option maxRecDepth 100000 in
theorem moX2_at : am_MO mX2_at := ⟨wr8 _ (List.mem_of_getElem? (i := 18) rfl), by decide +kernel, ⟨by decide +kernel, by decide +kernel⟩, wr1 _ (List.mem_of_getElem? (i := 18) rfl), rfl⟩
set_option maxRecDepth 100000 in
theorem moX2_init : am_MO mX2_init := ⟨wr4 _ (List.mem_of_getElem? (i := 22) rfl), by decide +kernel, ⟨by decide +kernel, by decide +kernel⟩, wr1 _ (List.mem_of_getElem? (i := 18) rfl), rfl⟩
set_option maxRecDepth 100000 in
theorem moX2_isEmpty : am_MO mX2_isEmpty := ⟨wr32 _ (List.mem_of_getElem? (i := 13) rfl), by decide +kernel, ⟨by decide +kernel, by decide +kernel⟩, wr1 _ (List.mem_of_getElem? (i := 18) rfl), rfl⟩
set_option maxRecDepth 100000 in
theorem moX2_record : am_MO mX2_record := ⟨wr8 _ (List.mem_of_getElem? (i := 12) rfl), by decide +kernel, ⟨by decide +kernel, by decide +kernel⟩, wr1 _ (List.mem_of_getElem? (i := 18) rfl), rfl⟩
set_option maxRecDepth 100000 in
theorem moX2_restoreInto : am_MO mX2_restoreInto := ⟨wr32 _ (List.mem_of_getElem? (i := 17) rfl), by decide +kernel, ⟨by decide +kernel, by decide +kernel⟩, wr1 _ (List.mem_of_getElem? (i := 18) rfl), rfl⟩
set_option maxRecDepth 100000 in
theorem moX2_size : am_MO mX2_size := ⟨wr32 _ (List.mem_of_getElem? (i := 21) rfl), by decide +kernel, ⟨by decide +kernel, by decide +kernel⟩, wr1 _ (List.mem_of_getElem? (i := 18) rfl), rfl⟩
set_option maxRecDepth 100000 in
theorem moX3_copyFrom : am_MO mX3_copyFrom := ⟨wr9 _ (List.mem_of_getElem? (i := 10) rfl), by decide +kernel, ⟨by decide +kernel, by decide +kernel⟩, wr3 _ (List.mem_of_getElem? (i := 2) rfl), rfl⟩
set_option maxRecDepth 100000 in
theorem moX3_dueOn : am_MO mX3_dueOn := ⟨wr16 _ (List.mem_of_getElem? (i := 21) rfl), by decide +kernel, ⟨by decide +kernel, by decide +kernel⟩, wr3 _ (List.mem_of_getElem? (i := 2) rfl), rfl⟩
set_option maxRecDepth 100000 in
theorem moX3_firstOf : am_MO mX3_firstOf := ⟨wr10 _ (List.mem_of_getElem? (i := 13) rfl), by decide +kernel, ⟨by decide +kernel, by decide +kernel⟩, wr3 _ (List.mem_of_getElem? (i := 2) rfl), rfl⟩
set_option maxRecDepth 100000 in
theorem moX3_init : am_MO mX3_init := ⟨wr3 _ (List.mem_of_getElem? (i := 17) rfl), by decide +kernel, ⟨by decide +kernel, by decide +kernel⟩, wr3 _ (List.mem_of_getElem? (i := 2) rfl), rfl⟩
set_option maxRecDepth 100000 in
theorem moX3_keyOn : am_MO mX3_keyOn := ⟨wr36 _ (List.mem_of_getElem? (i := 10) rfl), by decide +kernel, ⟨by decide +kernel, by decide +kernel⟩, wr3 _ (List.mem_of_getElem? (i := 2) rfl), rfl⟩
set_option maxRecDepth 100000 in
theorem moX3_place : am_MO mX3_place := ⟨wr10 _ (List.mem_of_getElem? (i := 17) rfl), by decide +kernel, ⟨by decide +kernel, by decide +kernel⟩, wr3 _ (List.mem_of_getElem? (i := 2) rfl), rfl⟩
set_option maxRecDepth 100000 in
theorem moX3_valueOn : am_MO mX3_valueOn := ⟨wr26 _ (List.mem_of_getElem? (i := 6) rfl), by decide +kernel, ⟨by decide +kernel, by decide +kernel⟩, wr3 _ (List.mem_of_getElem? (i := 2) rfl), rfl⟩
set_option maxRecDepth 100000 in
theorem moX3_weighedDigits : am_MO mX3_weighedDigits := ⟨wr17 _ (List.mem_of_getElem? (i := 1) rfl), by decide +kernel, ⟨by decide +kernel, by decide +kernel⟩, wr3 _ (List.mem_of_getElem? (i := 2) rfl), rfl⟩
set_option maxRecDepth 100000 in
theorem moX3_widthOf : am_MO mX3_widthOf := ⟨wr14 _ (List.mem_of_getElem? (i := 23) rfl), by decide +kernel, ⟨by decide +kernel, by decide +kernel⟩, wr3 _ (List.mem_of_getElem? (i := 2) rfl), rfl⟩
set_option maxRecDepth 100000 in
theorem moX4_accept : am_MO mX4_accept := ⟨wr27 _ (List.mem_of_getElem? (i := 7) rfl), by decide +kernel, ⟨by decide +kernel, by decide +kernel⟩, wr2 _ (List.mem_of_getElem? (i := 7) rfl), rfl⟩
set_option maxRecDepth 100000 in
theorem moX4_begin : am_MO mX4_begin := ⟨wr24 _ (List.mem_of_getElem? (i := 13) rfl), by decide +kernel, ⟨by decide +kernel, by decide +kernel⟩, wr2 _ (List.mem_of_getElem? (i := 7) rfl), rfl⟩
set_option maxRecDepth 100000 in
theorem moX4_breakBefore : am_MO mX4_breakBefore := ⟨wr27 _ (List.mem_of_getElem? (i := 13) rfl), by decide +kernel, ⟨by decide +kernel, by decide +kernel⟩, wr2 _ (List.mem_of_getElem? (i := 7) rfl), rfl⟩
set_option maxRecDepth 100000 in
theorem moX4_breakDepartment : am_MO mX4_breakDepartment := ⟨wr29 _ (List.mem_of_getElem? (i := 3) rfl), by decide +kernel, ⟨by decide +kernel, by decide +kernel⟩, wr2 _ (List.mem_of_getElem? (i := 7) rfl), rfl⟩
set_option maxRecDepth 100000 in
theorem moX4_breakGroup : am_MO mX4_breakGroup := ⟨wr28 _ (List.mem_of_getElem? (i := 23) rfl), by decide +kernel, ⟨by decide +kernel, by decide +kernel⟩, wr2 _ (List.mem_of_getElem? (i := 7) rfl), rfl⟩
set_option maxRecDepth 100000 in
theorem moX4_breakWorker : am_MO mX4_breakWorker := ⟨wr27 _ (List.mem_of_getElem? (i := 19) rfl), by decide +kernel, ⟨by decide +kernel, by decide +kernel⟩, wr2 _ (List.mem_of_getElem? (i := 7) rfl), rfl⟩
set_option maxRecDepth 100000 in
theorem moX4_end : am_MO mX4_end := ⟨wr29 _ (List.mem_of_getElem? (i := 11) rfl), by decide +kernel, ⟨by decide +kernel, by decide +kernel⟩, wr2 _ (List.mem_of_getElem? (i := 7) rfl), rfl⟩
set_option maxRecDepth 100000 in
theorem moX4_init : am_MO mX4_init := ⟨wr5 _ (List.mem_of_getElem? (i := 20) rfl), by decide +kernel, ⟨by decide +kernel, by decide +kernel⟩, wr2 _ (List.mem_of_getElem? (i := 7) rfl), rfl⟩
set_option maxRecDepth 100000 in
theorem moX5_begin : am_MO mX5_begin := ⟨wr24 _ (List.mem_of_getElem? (i := 8) rfl), by decide +kernel, ⟨by decide +kernel, by decide +kernel⟩, wr3 _ (List.mem_of_getElem? (i := 10) rfl), rfl⟩
set_option maxRecDepth 100000 in
theorem moX5_copyFrom : am_MO mX5_copyFrom := ⟨wr10 _ (List.mem_of_getElem? (i := 5) rfl), by decide +kernel, ⟨by decide +kernel, by decide +kernel⟩, wr3 _ (List.mem_of_getElem? (i := 10) rfl), rfl⟩
set_option maxRecDepth 100000 in
theorem moX5_hadCard : am_MO mX5_hadCard := ⟨wr27 _ (List.mem_of_getElem? (i := 3) rfl), by decide +kernel, ⟨by decide +kernel, by decide +kernel⟩, wr3 _ (List.mem_of_getElem? (i := 10) rfl), rfl⟩
set_option maxRecDepth 100000 in
theorem moX5_has : am_MO mX5_has := ⟨wr35 _ (List.mem_of_getElem? (i := 12) rfl), by decide +kernel, ⟨by decide +kernel, by decide +kernel⟩, wr3 _ (List.mem_of_getElem? (i := 10) rfl), rfl⟩
set_option maxRecDepth 100000 in
theorem moX5_init : am_MO mX5_init := ⟨wr4 _ (List.mem_of_getElem? (i := 17) rfl), by decide +kernel, ⟨by decide +kernel, by decide +kernel⟩, wr3 _ (List.mem_of_getElem? (i := 10) rfl), rfl⟩
set_option maxRecDepth 100000 in
theorem moX5_isCard : am_MO mX5_isCard := ⟨wr39 _ (List.mem_of_getElem? (i := 21) rfl), by decide +kernel, ⟨by decide +kernel, by decide +kernel⟩, wr3 _ (List.mem_of_getElem? (i := 10) rfl), rfl⟩
set_option maxRecDepth 100000 in
theorem moX5_isEmpty : am_MO mX5_isEmpty := ⟨wr35 _ (List.mem_of_getElem? (i := 0) rfl), by decide +kernel, ⟨by decide +kernel, by decide +kernel⟩, wr3 _ (List.mem_of_getElem? (i := 10) rfl), rfl⟩
set_option maxRecDepth 100000 in
theorem moX5_judge : am_MO mX5_judge := ⟨wr26 _ (List.mem_of_getElem? (i := 23) rfl), by decide +kernel, ⟨by decide +kernel, by decide +kernel⟩, wr3 _ (List.mem_of_getElem? (i := 10) rfl), rfl⟩
set_option maxRecDepth 100000 in
theorem moX5_lastLine : am_MO mX5_lastLine := ⟨wr35 _ (List.mem_of_getElem? (i := 4) rfl), by decide +kernel, ⟨by decide +kernel, by decide +kernel⟩, wr3 _ (List.mem_of_getElem? (i := 10) rfl), rfl⟩
set_option maxRecDepth 100000 in
theorem moX5_number : am_MO mX5_number := ⟨wr35 _ (List.mem_of_getElem? (i := 8) rfl), by decide +kernel, ⟨by decide +kernel, by decide +kernel⟩, wr3 _ (List.mem_of_getElem? (i := 10) rfl), rfl⟩
set_option maxRecDepth 100000 in
theorem moX5_print : am_MO mX5_print := ⟨wr28 _ (List.mem_of_getElem? (i := 10) rfl), by decide +kernel, ⟨by decide +kernel, by decide +kernel⟩, wr3 _ (List.mem_of_getElem? (i := 10) rfl), rfl⟩
set_option maxRecDepth 100000 in
theorem moX5_readCard : am_MO mX5_readCard := ⟨wr40 _ (List.mem_of_getElem? (i := 17) rfl), by decide +kernel, ⟨by decide +kernel, by decide +kernel⟩, wr3 _ (List.mem_of_getElem? (i := 10) rfl), rfl⟩
set_option maxRecDepth 100000 in
theorem moX5_reasonOf : am_MO mX5_reasonOf := ⟨wr35 _ (List.mem_of_getElem? (i := 20) rfl), by decide +kernel, ⟨by decide +kernel, by decide +kernel⟩, wr3 _ (List.mem_of_getElem? (i := 10) rfl), rfl⟩
set_option maxRecDepth 100000 in
theorem moX5_refusedCards : am_MO mX5_refusedCards := ⟨wr35 _ (List.mem_of_getElem? (i := 16) rfl), by decide +kernel, ⟨by decide +kernel, by decide +kernel⟩, wr3 _ (List.mem_of_getElem? (i := 10) rfl), rfl⟩
set_option maxRecDepth 100000 in
theorem moX5_sumOfWorkers : am_MO mX5_sumOfWorkers := ⟨wr39 _ (List.mem_of_getElem? (i := 17) rfl), by decide +kernel, ⟨by decide +kernel, by decide +kernel⟩, wr3 _ (List.mem_of_getElem? (i := 10) rfl), rfl⟩
set_option maxRecDepth 100000 in
theorem moX6_at : am_MO mX6_at := ⟨wr41 _ (List.mem_of_getElem? (i := 2) rfl), by decide +kernel, ⟨by decide +kernel, by decide +kernel⟩, wr2 _ (List.mem_of_getElem? (i := 11) rfl), rfl⟩
set_option maxRecDepth 100000 in
theorem moX6_init : am_MO mX6_init := ⟨wr6 _ (List.mem_of_getElem? (i := 8) rfl), by decide +kernel, ⟨by decide +kernel, by decide +kernel⟩, wr2 _ (List.mem_of_getElem? (i := 11) rfl), rfl⟩
set_option maxRecDepth 100000 in
theorem moX6_isAhead : am_MO mX6_isAhead := ⟨wr43 _ (List.mem_of_getElem? (i := 21) rfl), by decide +kernel, ⟨by decide +kernel, by decide +kernel⟩, wr2 _ (List.mem_of_getElem? (i := 11) rfl), rfl⟩
set_option maxRecDepth 100000 in
theorem moX6_numberOf : am_MO mX6_numberOf := ⟨wr41 _ (List.mem_of_getElem? (i := 14) rfl), by decide +kernel, ⟨by decide +kernel, by decide +kernel⟩, wr2 _ (List.mem_of_getElem? (i := 11) rfl), rfl⟩
set_option maxRecDepth 100000 in
theorem moX6_ofKey : am_MO mX6_ofKey := ⟨wr40 _ (List.mem_of_getElem? (i := 22) rfl), by decide +kernel, ⟨by decide +kernel, by decide +kernel⟩, wr2 _ (List.mem_of_getElem? (i := 11) rfl), rfl⟩
set_option maxRecDepth 100000 in
theorem moX6_put : am_MO mX6_put := ⟨wr44 _ (List.mem_of_getElem? (i := 1) rfl), by decide +kernel, ⟨by decide +kernel, by decide +kernel⟩, wr2 _ (List.mem_of_getElem? (i := 11) rfl), rfl⟩
set_option maxRecDepth 100000 in
theorem moX6_rank : am_MO mX6_rank := ⟨wr43 _ (List.mem_of_getElem? (i := 18) rfl), by decide +kernel, ⟨by decide +kernel, by decide +kernel⟩, wr2 _ (List.mem_of_getElem? (i := 11) rfl), rfl⟩
set_option maxRecDepth 100000 in
theorem moX6_reckon : am_MO mX6_reckon := ⟨wr40 _ (List.mem_of_getElem? (i := 9) rfl), by decide +kernel, ⟨by decide +kernel, by decide +kernel⟩, wr2 _ (List.mem_of_getElem? (i := 11) rfl), rfl⟩
set_option maxRecDepth 100000 in
theorem moX6_size : am_MO mX6_size := ⟨wr43 _ (List.mem_of_getElem? (i := 14) rfl), by decide +kernel, ⟨by decide +kernel, by decide +kernel⟩, wr2 _ (List.mem_of_getElem? (i := 11) rfl), rfl⟩
set_option maxRecDepth 100000 in
theorem moX6_sum : am_MO mX6_sum := ⟨wr41 _ (List.mem_of_getElem? (i := 10) rfl), by decide +kernel, ⟨by decide +kernel, by decide +kernel⟩, wr2 _ (List.mem_of_getElem? (i := 11) rfl), rfl⟩
set_option maxRecDepth 100000 in
theorem moX7_arrange : am_MO mX7_arrange := ⟨wr22 _ (List.mem_of_getElem? (i := 21) rfl), by decide +kernel, ⟨by decide +kernel, by decide +kernel⟩, wr2 _ (List.mem_of_getElem? (i := 3) rfl), rfl⟩
set_option maxRecDepth 100000 in
theorem moX7_begin : am_MO mX7_begin := ⟨wr21 _ (List.mem_of_getElem? (i := 22) rfl), by decide +kernel, ⟨by decide +kernel, by decide +kernel⟩, wr2 _ (List.mem_of_getElem? (i := 3) rfl), rfl⟩
set_option maxRecDepth 100000 in
theorem moX7_findStarts : am_MO mX7_findStarts := ⟨wr22 _ (List.mem_of_getElem? (i := 12) rfl), by decide +kernel, ⟨by decide +kernel, by decide +kernel⟩, wr2 _ (List.mem_of_getElem? (i := 3) rfl), rfl⟩
set_option maxRecDepth 100000 in
theorem moX7_init : am_MO mX7_init := ⟨wr5 _ (List.mem_of_getElem? (i := 12) rfl), by decide +kernel, ⟨by decide +kernel, by decide +kernel⟩, wr2 _ (List.mem_of_getElem? (i := 3) rfl), rfl⟩
set_option maxRecDepth 100000 in
theorem moX7_isInKeyOrder : am_MO mX7_isInKeyOrder := ⟨wr36 _ (List.mem_of_getElem? (i := 5) rfl), by decide +kernel, ⟨by decide +kernel, by decide +kernel⟩, wr2 _ (List.mem_of_getElem? (i := 3) rfl), rfl⟩
set_option maxRecDepth 100000 in
theorem moX7_passBy : am_MO mX7_passBy := ⟨wr22 _ (List.mem_of_getElem? (i := 7) rfl), by decide +kernel, ⟨by decide +kernel, by decide +kernel⟩, wr2 _ (List.mem_of_getElem? (i := 3) rfl), rfl⟩
set_option maxRecDepth 100000 in
theorem moX7_stackOf : am_MO mX7_stackOf := ⟨wr22 _ (List.mem_of_getElem? (i := 16) rfl), by decide +kernel, ⟨by decide +kernel, by decide +kernel⟩, wr2 _ (List.mem_of_getElem? (i := 3) rfl), rfl⟩
set_option maxRecDepth 100000 in
theorem moX8_copyFrom : am_MO mX8_copyFrom := ⟨wr9 _ (List.mem_of_getElem? (i := 2) rfl), by decide +kernel, ⟨by decide +kernel, by decide +kernel⟩, wr1 _ (List.mem_of_getElem? (i := 14) rfl), rfl⟩
set_option maxRecDepth 100000 in
theorem moX8_init : am_MO mX8_init := ⟨wr2 _ (List.mem_of_getElem? (i := 22) rfl), by decide +kernel, ⟨by decide +kernel, by decide +kernel⟩, wr1 _ (List.mem_of_getElem? (i := 14) rfl), rfl⟩
set_option maxRecDepth 100000 in
theorem moX8_settingOf : am_MO mX8_settingOf := ⟨wr12 _ (List.mem_of_getElem? (i := 2) rfl), by decide +kernel, ⟨by decide +kernel, by decide +kernel⟩, wr1 _ (List.mem_of_getElem? (i := 14) rfl), rfl⟩
set_option maxRecDepth 100000 in
theorem moX9_append : am_MO mX9_append := ⟨wr33 _ (List.mem_of_getElem? (i := 13) rfl), by decide +kernel, ⟨by decide +kernel, by decide +kernel⟩, wr1 _ (List.mem_of_getElem? (i := 23) rfl), rfl⟩
set_option maxRecDepth 100000 in
theorem moX9_at : am_MO mX9_at := ⟨wr14 _ (List.mem_of_getElem? (i := 5) rfl), by decide +kernel, ⟨by decide +kernel, by decide +kernel⟩, wr1 _ (List.mem_of_getElem? (i := 23) rfl), rfl⟩
set_option maxRecDepth 100000 in
theorem moX9_clear : am_MO mX9_clear := ⟨wr34 _ (List.mem_of_getElem? (i := 1) rfl), by decide +kernel, ⟨by decide +kernel, by decide +kernel⟩, wr1 _ (List.mem_of_getElem? (i := 23) rfl), rfl⟩
set_option maxRecDepth 100000 in
theorem moX9_countDigit : am_MO mX9_countDigit := ⟨wr15 _ (List.mem_of_getElem? (i := 3) rfl), by decide +kernel, ⟨by decide +kernel, by decide +kernel⟩, wr1 _ (List.mem_of_getElem? (i := 23) rfl), rfl⟩
set_option maxRecDepth 100000 in
theorem moX9_digitsOf : am_MO mX9_digitsOf := ⟨wr14 _ (List.mem_of_getElem? (i := 12) rfl), by decide +kernel, ⟨by decide +kernel, by decide +kernel⟩, wr1 _ (List.mem_of_getElem? (i := 23) rfl), rfl⟩
set_option maxRecDepth 100000 in
theorem moX9_endsBehindLetter : am_MO mX9_endsBehindLetter := ⟨wr15 _ (List.mem_of_getElem? (i := 15) rfl), by decide +kernel, ⟨by decide +kernel, by decide +kernel⟩, wr1 _ (List.mem_of_getElem? (i := 23) rfl), rfl⟩
set_option maxRecDepth 100000 in
theorem moX9_fieldOf : am_MO mX9_fieldOf := ⟨wr14 _ (List.mem_of_getElem? (i := 8) rfl), by decide +kernel, ⟨by decide +kernel, by decide +kernel⟩, wr1 _ (List.mem_of_getElem? (i := 23) rfl), rfl⟩
set_option maxRecDepth 100000 in
theorem moX9_hasWord : am_MO mX9_hasWord := ⟨wr15 _ (List.mem_of_getElem? (i := 11) rfl), by decide +kernel, ⟨by decide +kernel, by decide +kernel⟩, wr1 _ (List.mem_of_getElem? (i := 23) rfl), rfl⟩
set_option maxRecDepth 100000 in
theorem moX9_init : am_MO mX9_init := ⟨wr5 _ (List.mem_of_getElem? (i := 3) rfl), by decide +kernel, ⟨by decide +kernel, by decide +kernel⟩, wr1 _ (List.mem_of_getElem? (i := 23) rfl), rfl⟩
set_option maxRecDepth 100000 in
theorem moX9_isTextField : am_MO mX9_isTextField := ⟨wr14 _ (List.mem_of_getElem? (i := 15) rfl), by decide +kernel, ⟨by decide +kernel, by decide +kernel⟩, wr1 _ (List.mem_of_getElem? (i := 23) rfl), rfl⟩
set_option maxRecDepth 100000 in
theorem moX9_noteFault : am_MO mX9_noteFault := ⟨wr15 _ (List.mem_of_getElem? (i := 7) rfl), by decide +kernel, ⟨by decide +kernel, by decide +kernel⟩, wr1 _ (List.mem_of_getElem? (i := 23) rfl), rfl⟩
set_option maxRecDepth 100000 in
theorem moX9_punchNumber : am_MO mX9_punchNumber := ⟨wr16 _ (List.mem_of_getElem? (i := 12) rfl), by decide +kernel, ⟨by decide +kernel, by decide +kernel⟩, wr1 _ (List.mem_of_getElem? (i := 23) rfl), rfl⟩
set_option maxRecDepth 100000 in
theorem moX9_punchOn : am_MO mX9_punchOn := ⟨wr16 _ (List.mem_of_getElem? (i := 8) rfl), by decide +kernel, ⟨by decide +kernel, by decide +kernel⟩, wr1 _ (List.mem_of_getElem? (i := 23) rfl), rfl⟩
set_option maxRecDepth 100000 in
theorem moX9_readBetweenWords : am_MO mX9_readBetweenWords := ⟨wr14 _ (List.mem_of_getElem? (i := 1) rfl), by decide +kernel, ⟨by decide +kernel, by decide +kernel⟩, wr1 _ (List.mem_of_getElem? (i := 23) rfl), rfl⟩
set_option maxRecDepth 100000 in
theorem moX9_readInWord : am_MO mX9_readInWord := ⟨wr14 _ (List.mem_of_getElem? (i := 19) rfl), by decide +kernel, ⟨by decide +kernel, by decide +kernel⟩, wr1 _ (List.mem_of_getElem? (i := 23) rfl), rfl⟩
set_option maxRecDepth 100000 in
theorem moX9_readsAsCard : am_MO mX9_readsAsCard := ⟨wr13 _ (List.mem_of_getElem? (i := 19) rfl), by decide +kernel, ⟨by decide +kernel, by decide +kernel⟩, wr1 _ (List.mem_of_getElem? (i := 23) rfl), rfl⟩
set_option maxRecDepth 100000 in
theorem moX9_size : am_MO mX9_size := ⟨wr33 _ (List.mem_of_getElem? (i := 9) rfl), by decide +kernel, ⟨by decide +kernel, by decide +kernel⟩, wr1 _ (List.mem_of_getElem? (i := 23) rfl), rfl⟩
set_option maxRecDepth 100000 in
theorem cq0_15 : am_CP 0 (15, 0, 0, mX0_clear) := ⟨moX0_clear, fun _ => wr4 _ (List.mem_of_getElem? (i := 9) rfl), fun h => absurd h (by decide), fun _ => wr4 _ (List.mem_of_getElem? (i := 10) rfl), fun _ => wr4 _ (List.mem_of_getElem? (i := 11) rfl), fun h => absurd h (by decide), fun h => absurd h (by decide), by decide +kernel⟩
set_option maxRecDepth 100000 in
theorem cq0_26 : am_CP 0 (26, 4, 1, mX11_isColumn) := ⟨moX11_isColumn, fun h => absurd h (by decide), fun _ => List.mem_of_getElem? (i := 14) rfl, fun h => absurd h (by decide), fun h => absurd h (by decide), fun _ => wr8 _ (List.mem_of_getElem? (i := 7) rfl), fun h => absurd h (by decide), by decide +kernel⟩
set_option maxRecDepth 100000 in
theorem cq0_30 : am_CP 0 (30, 0, 1, mX0_copyFrom) := ⟨moX0_copyFrom, fun _ => wr25 _ (List.mem_of_getElem? (i := 20) rfl), fun h => absurd h (by decide), fun _ => wr9 _ (List.mem_of_getElem? (i := 22) rfl), fun _ => wr9 _ (List.mem_of_getElem? (i := 23) rfl), fun h => absurd h (by decide), fun h => absurd h (by decide), by decide +kernel⟩
set_option maxRecDepth 100000 in
theorem cq0_40 : am_CP 0 (40, 0, 2, mX0_show) := ⟨moX0_show, fun _ => wr25 _ (List.mem_of_getElem? (i := 21) rfl), fun h => absurd h (by decide), fun _ => wr16 _ (List.mem_of_getElem? (i := 15) rfl), fun _ => wr16 _ (List.mem_of_getElem? (i := 16) rfl), fun h => absurd h (by decide), fun h => absurd h (by decide), by decide +kernel⟩
set_option maxRecDepth 100000 in
theorem cq1_17 : am_CP 1 (17, 2, 0, mX0_init) := ⟨moX0_init, fun _ => wr4 _ (List.mem_of_getElem? (i := 4) rfl), fun h => absurd h (by decide), fun _ => wr4 _ (List.mem_of_getElem? (i := 5) rfl), fun h => absurd h (by decide), fun h => absurd h (by decide), fun _ => ⟨rfl, rfl⟩, by decide +kernel⟩
set_option maxRecDepth 100000 in
theorem cq1_26 : am_CP 1 (26, 0, 1, mX1_at) := ⟨moX1_at, fun _ => wr9 _ (List.mem_of_getElem? (i := 17) rfl), fun h => absurd h (by decide), fun _ => wr9 _ (List.mem_of_getElem? (i := 18) rfl), fun _ => wr9 _ (List.mem_of_getElem? (i := 19) rfl), fun h => absurd h (by decide), fun h => absurd h (by decide), by decide +kernel⟩
set_option maxRecDepth 100000 in
theorem cq1_30 : am_CP 1 (30, 0, 0, mX0_clear) := ⟨moX0_clear, fun _ => wr15 _ (List.mem_of_getElem? (i := 20) rfl), fun h => absurd h (by decide), fun _ => wr4 _ (List.mem_of_getElem? (i := 10) rfl), fun _ => wr4 _ (List.mem_of_getElem? (i := 11) rfl), fun h => absurd h (by decide), fun h => absurd h (by decide), by decide +kernel⟩
set_option maxRecDepth 100000 in
theorem cq1_33 : am_CP 1 (33, 0, 2, mX1_carry) := ⟨moX1_carry, fun _ => wr15 _ (List.mem_of_getElem? (i := 21) rfl), fun h => absurd h (by decide), fun _ => wr15 _ (List.mem_of_getElem? (i := 22) rfl), fun _ => wr15 _ (List.mem_of_getElem? (i := 23) rfl), fun h => absurd h (by decide), fun h => absurd h (by decide), by decide +kernel⟩
set_option maxRecDepth 100000 in
theorem cq1_37 : am_CP 1 (37, 0, 1, mX1_has) := ⟨moX1_has, fun _ => wr19 _ (List.mem_of_getElem? (i := 10) rfl), fun h => absurd h (by decide), fun _ => wr19 _ (List.mem_of_getElem? (i := 3) rfl), fun _ => wr19 _ (List.mem_of_getElem? (i := 4) rfl), fun h => absurd h (by decide), fun h => absurd h (by decide), by decide +kernel⟩
set_option maxRecDepth 100000 in
theorem cq1_41 : am_CP 1 (41, 0, 2, mX1_put) := ⟨moX1_put, fun _ => wr16 _ (List.mem_of_getElem? (i := 1) rfl), fun h => absurd h (by decide), fun _ => wr16 _ (List.mem_of_getElem? (i := 2) rfl), fun _ => wr16 _ (List.mem_of_getElem? (i := 3) rfl), fun h => absurd h (by decide), fun h => absurd h (by decide), by decide +kernel⟩
set_option maxRecDepth 100000 in
theorem cq1_45 : am_CP 1 (45, 0, 1, mX0_copyFrom) := ⟨moX0_copyFrom, fun _ => wr9 _ (List.mem_of_getElem? (i := 21) rfl), fun h => absurd h (by decide), fun _ => wr9 _ (List.mem_of_getElem? (i := 22) rfl), fun _ => wr9 _ (List.mem_of_getElem? (i := 23) rfl), fun h => absurd h (by decide), fun h => absurd h (by decide), by decide +kernel⟩
set_option maxRecDepth 100000 in
theorem cq2_21 : am_CP 2 (21, 0, 1, mX2_at) := ⟨moX2_at, fun _ => wr8 _ (List.mem_of_getElem? (i := 15) rfl), fun h => absurd h (by decide), fun _ => wr8 _ (List.mem_of_getElem? (i := 16) rfl), fun _ => wr8 _ (List.mem_of_getElem? (i := 17) rfl), fun h => absurd h (by decide), fun h => absurd h (by decide), by decide +kernel⟩
set_option maxRecDepth 100000 in
theorem cq2_25 : am_CP 2 (25, 0, 1, mX8_copyFrom) := ⟨moX8_copyFrom, fun _ => wr8 _ (List.mem_of_getElem? (i := 23) rfl), fun h => absurd h (by decide), fun _ => wr9 _ (List.mem_of_getElem? (i := 0) rfl), fun _ => wr9 _ (List.mem_of_getElem? (i := 1) rfl), fun h => absurd h (by decide), fun h => absurd h (by decide), by decide +kernel⟩
set_option maxRecDepth 100000 in
theorem cq2_32 : am_CP 2 (32, 1, 2, mJ9_floorMod_7cf53) := ⟨moJ9_floorMod_7cf53, fun _ => wr8 _ (List.mem_of_getElem? (i := 19) rfl), fun h => absurd h (by decide), fun h => absurd h (by decide), fun h => absurd h (by decide), fun _ => wr8 _ (List.mem_of_getElem? (i := 20) rfl), fun h => absurd h (by decide), by decide +kernel⟩
set_option maxRecDepth 100000 in
theorem cq2_38 : am_CP 2 (38, 5, 0, mX8_init) := ⟨moX8_init, fun h => absurd h (by decide), fun _ => List.mem_of_getElem? (i := 10) rfl, fun _ => wr2 _ (List.mem_of_getElem? (i := 21) rfl), fun h => absurd h (by decide), fun h => absurd h (by decide), fun _ => ⟨rfl, rfl⟩, by decide +kernel⟩
set_option maxRecDepth 100000 in
theorem cq3_18 : am_CP 3 (18, 4, 1, mX11_isField) := ⟨moX11_isField, fun h => absurd h (by decide), fun _ => List.mem_of_getElem? (i := 11) rfl, fun h => absurd h (by decide), fun h => absurd h (by decide), fun _ => wr7 _ (List.mem_of_getElem? (i := 22) rfl), fun h => absurd h (by decide), by decide +kernel⟩
set_option maxRecDepth 100000 in
theorem cq3_22 : am_CP 3 (22, 0, 1, mX3_firstOf) := ⟨moX3_firstOf, fun _ => wr17 _ (List.mem_of_getElem? (i := 3) rfl), fun h => absurd h (by decide), fun _ => wr10 _ (List.mem_of_getElem? (i := 11) rfl), fun _ => wr10 _ (List.mem_of_getElem? (i := 12) rfl), fun h => absurd h (by decide), fun h => absurd h (by decide), by decide +kernel⟩
set_option maxRecDepth 100000 in
theorem cq3_26 : am_CP 3 (26, 0, 1, mX3_widthOf) := ⟨moX3_widthOf, fun _ => wr17 _ (List.mem_of_getElem? (i := 4) rfl), fun h => absurd h (by decide), fun _ => wr14 _ (List.mem_of_getElem? (i := 21) rfl), fun _ => wr14 _ (List.mem_of_getElem? (i := 22) rfl), fun h => absurd h (by decide), fun h => absurd h (by decide), by decide +kernel⟩
set_option maxRecDepth 100000 in
theorem cq3_29 : am_CP 3 (29, 0, 1, mX0_shows) := ⟨moX0_shows, fun _ => wr17 _ (List.mem_of_getElem? (i := 5) rfl), fun h => absurd h (by decide), fun _ => wr17 _ (List.mem_of_getElem? (i := 6) rfl), fun _ => wr17 _ (List.mem_of_getElem? (i := 7) rfl), fun h => absurd h (by decide), fun h => absurd h (by decide), by decide +kernel⟩
set_option maxRecDepth 100000 in
theorem cq3_35 : am_CP 3 (35, 0, 2, mX3_weighedDigits) := ⟨moX3_weighedDigits, fun _ => wr16 _ (List.mem_of_getElem? (i := 22) rfl), fun h => absurd h (by decide), fun _ => wr16 _ (List.mem_of_getElem? (i := 23) rfl), fun _ => wr17 _ (List.mem_of_getElem? (i := 0) rfl), fun h => absurd h (by decide), fun h => absurd h (by decide), by decide +kernel⟩
set_option maxRecDepth 100000 in
theorem cq3_39 : am_CP 3 (39, 0, 2, mX3_valueOn) := ⟨moX3_valueOn, fun _ => wr36 _ (List.mem_of_getElem? (i := 12) rfl), fun h => absurd h (by decide), fun _ => wr26 _ (List.mem_of_getElem? (i := 4) rfl), fun _ => wr26 _ (List.mem_of_getElem? (i := 5) rfl), fun h => absurd h (by decide), fun h => absurd h (by decide), by decide +kernel⟩
set_option maxRecDepth 100000 in
theorem cq3_44 : am_CP 3 (44, 1, 3, mX10_keyOf) := ⟨moX10_keyOf, fun _ => wr36 _ (List.mem_of_getElem? (i := 13) rfl), fun h => absurd h (by decide), fun h => absurd h (by decide), fun h => absurd h (by decide), fun _ => wr26 _ (List.mem_of_getElem? (i := 13) rfl), fun h => absurd h (by decide), by decide +kernel⟩
set_option maxRecDepth 100000 in
theorem cq4_11 : am_CP 4 (11, 5, 0, mX10_init) := ⟨moX10_init, fun h => absurd h (by decide), fun _ => List.mem_of_getElem? (i := 7) rfl, fun _ => wr6 _ (List.mem_of_getElem? (i := 3) rfl), fun h => absurd h (by decide), fun h => absurd h (by decide), fun _ => ⟨rfl, rfl⟩, by decide +kernel⟩
set_option maxRecDepth 100000 in
theorem cq4_27 : am_CP 4 (27, 0, 0, mX10_clear) := ⟨moX10_clear, fun _ => wr24 _ (List.mem_of_getElem? (i := 14) rfl), fun h => absurd h (by decide), fun _ => wr24 _ (List.mem_of_getElem? (i := 15) rfl), fun _ => wr24 _ (List.mem_of_getElem? (i := 16) rfl), fun h => absurd h (by decide), fun h => absurd h (by decide), by decide +kernel⟩
set_option maxRecDepth 100000 in
theorem cq4_34 : am_CP 4 (34, 0, 0, mX10_key) := ⟨moX10_key, fun _ => wr27 _ (List.mem_of_getElem? (i := 9) rfl), fun h => absurd h (by decide), fun _ => wr26 _ (List.mem_of_getElem? (i := 9) rfl), fun _ => wr26 _ (List.mem_of_getElem? (i := 10) rfl), fun h => absurd h (by decide), fun h => absurd h (by decide), by decide +kernel⟩
set_option maxRecDepth 100000 in
theorem cq4_38 : am_CP 4 (38, 0, 2, mX4_breakBefore) := ⟨moX4_breakBefore, fun _ => wr27 _ (List.mem_of_getElem? (i := 10) rfl), fun h => absurd h (by decide), fun _ => wr27 _ (List.mem_of_getElem? (i := 11) rfl), fun _ => wr27 _ (List.mem_of_getElem? (i := 12) rfl), fun h => absurd h (by decide), fun h => absurd h (by decide), by decide +kernel⟩
set_option maxRecDepth 100000 in
theorem cq4_42 : am_CP 4 (42, 0, 3, mX5_print) := ⟨moX5_print, fun _ => wr28 _ (List.mem_of_getElem? (i := 7) rfl), fun h => absurd h (by decide), fun _ => wr28 _ (List.mem_of_getElem? (i := 8) rfl), fun _ => wr28 _ (List.mem_of_getElem? (i := 9) rfl), fun h => absurd h (by decide), fun h => absurd h (by decide), by decide +kernel⟩
set_option maxRecDepth 100000 in
theorem cq4_48 : am_CP 4 (48, 0, 1, mX10_addCard) := ⟨moX10_addCard, fun _ => wr29 _ (List.mem_of_getElem? (i := 4) rfl), fun h => absurd h (by decide), fun _ => wr29 _ (List.mem_of_getElem? (i := 5) rfl), fun _ => wr29 _ (List.mem_of_getElem? (i := 6) rfl), fun h => absurd h (by decide), fun h => absurd h (by decide), by decide +kernel⟩
set_option maxRecDepth 100000 in
theorem cq4_52 : am_CP 4 (52, 0, 1, mX4_breakWorker) := ⟨moX4_breakWorker, fun _ => wr27 _ (List.mem_of_getElem? (i := 16) rfl), fun h => absurd h (by decide), fun _ => wr27 _ (List.mem_of_getElem? (i := 17) rfl), fun _ => wr27 _ (List.mem_of_getElem? (i := 18) rfl), fun h => absurd h (by decide), fun h => absurd h (by decide), by decide +kernel⟩
set_option maxRecDepth 100000 in
theorem cq4_56 : am_CP 4 (56, 0, 1, mX4_breakGroup) := ⟨moX4_breakGroup, fun _ => wr28 _ (List.mem_of_getElem? (i := 20) rfl), fun h => absurd h (by decide), fun _ => wr28 _ (List.mem_of_getElem? (i := 21) rfl), fun _ => wr28 _ (List.mem_of_getElem? (i := 22) rfl), fun h => absurd h (by decide), fun h => absurd h (by decide), by decide +kernel⟩
set_option maxRecDepth 100000 in
theorem cq4_59 : am_CP 4 (59, 0, 1, mX4_breakDepartment) := ⟨moX4_breakDepartment, fun _ => wr29 _ (List.mem_of_getElem? (i := 0) rfl), fun h => absurd h (by decide), fun _ => wr29 _ (List.mem_of_getElem? (i := 1) rfl), fun _ => wr29 _ (List.mem_of_getElem? (i := 2) rfl), fun h => absurd h (by decide), fun h => absurd h (by decide), by decide +kernel⟩
set_option maxRecDepth 100000 in
theorem cq4_70 : am_CP 4 (70, 0, 1, mX10_overtimeBeyond) := ⟨moX10_overtimeBeyond, fun _ => wr27 _ (List.mem_of_getElem? (i := 22) rfl), fun h => absurd h (by decide), fun _ => wr27 _ (List.mem_of_getElem? (i := 23) rfl), fun _ => wr28 _ (List.mem_of_getElem? (i := 0) rfl), fun h => absurd h (by decide), fun h => absurd h (by decide), by decide +kernel⟩
set_option maxRecDepth 100000 in
theorem cq4_74 : am_CP 4 (74, 0, 1, mX10_addOvertime) := ⟨moX10_addOvertime, fun _ => wr28 _ (List.mem_of_getElem? (i := 3) rfl), fun h => absurd h (by decide), fun _ => wr28 _ (List.mem_of_getElem? (i := 4) rfl), fun _ => wr28 _ (List.mem_of_getElem? (i := 5) rfl), fun h => absurd h (by decide), fun h => absurd h (by decide), by decide +kernel⟩
set_option maxRecDepth 100000 in
theorem cq5_34 : am_CP 5 (34, 0, 1, mX5_hadCard) := ⟨moX5_hadCard, fun _ => wr27 _ (List.mem_of_getElem? (i := 0) rfl), fun h => absurd h (by decide), fun _ => wr27 _ (List.mem_of_getElem? (i := 1) rfl), fun _ => wr27 _ (List.mem_of_getElem? (i := 2) rfl), fun h => absurd h (by decide), fun h => absurd h (by decide), by decide +kernel⟩
set_option maxRecDepth 100000 in
theorem cq5_39 : am_CP 5 (39, 0, 1, mX5_reasonOf) := ⟨moX5_reasonOf, fun _ => wr35 _ (List.mem_of_getElem? (i := 17) rfl), fun h => absurd h (by decide), fun _ => wr35 _ (List.mem_of_getElem? (i := 18) rfl), fun _ => wr35 _ (List.mem_of_getElem? (i := 19) rfl), fun h => absurd h (by decide), fun h => absurd h (by decide), by decide +kernel⟩
set_option maxRecDepth 100000 in
theorem cq5_43 : am_CP 5 (43, 4, 3, mX11_isWithin) := ⟨moX11_isWithin, fun h => absurd h (by decide), fun _ => List.mem_of_getElem? (i := 16) rfl, fun h => absurd h (by decide), fun h => absurd h (by decide), fun _ => wr8 _ (List.mem_of_getElem? (i := 4) rfl), fun h => absurd h (by decide), by decide +kernel⟩
set_option maxRecDepth 100000 in
theorem cq5_47 : am_CP 5 (47, 0, 1, mX5_has) := ⟨moX5_has, fun _ => wr35 _ (List.mem_of_getElem? (i := 9) rfl), fun h => absurd h (by decide), fun _ => wr35 _ (List.mem_of_getElem? (i := 10) rfl), fun _ => wr35 _ (List.mem_of_getElem? (i := 11) rfl), fun h => absurd h (by decide), fun h => absurd h (by decide), by decide +kernel⟩
set_option maxRecDepth 100000 in
theorem cq5_50 : am_CP 5 (50, 0, 2, mX5_number) := ⟨moX5_number, fun _ => wr35 _ (List.mem_of_getElem? (i := 5) rfl), fun h => absurd h (by decide), fun _ => wr35 _ (List.mem_of_getElem? (i := 6) rfl), fun _ => wr35 _ (List.mem_of_getElem? (i := 7) rfl), fun h => absurd h (by decide), fun h => absurd h (by decide), by decide +kernel⟩
set_option maxRecDepth 100000 in
theorem cq5_53 : am_CP 5 (53, 0, 1, mX5_isCard) := ⟨moX5_isCard, fun _ => wr39 _ (List.mem_of_getElem? (i := 18) rfl), fun h => absurd h (by decide), fun _ => wr39 _ (List.mem_of_getElem? (i := 19) rfl), fun _ => wr39 _ (List.mem_of_getElem? (i := 20) rfl), fun h => absurd h (by decide), fun h => absurd h (by decide), by decide +kernel⟩
set_option maxRecDepth 100000 in
theorem cq6_17 : am_CP 6 (17, 5, 0, mX10_init) := ⟨moX10_init, fun h => absurd h (by decide), fun _ => List.mem_of_getElem? (i := 8) rfl, fun _ => wr6 _ (List.mem_of_getElem? (i := 3) rfl), fun h => absurd h (by decide), fun h => absurd h (by decide), fun _ => ⟨rfl, rfl⟩, by decide +kernel⟩
set_option maxRecDepth 100000 in
theorem cq6_34 : am_CP 6 (34, 0, 1, mX5_isCard) := ⟨moX5_isCard, fun _ => wr40 _ (List.mem_of_getElem? (i := 13) rfl), fun h => absurd h (by decide), fun _ => wr39 _ (List.mem_of_getElem? (i := 19) rfl), fun _ => wr39 _ (List.mem_of_getElem? (i := 20) rfl), fun h => absurd h (by decide), fun h => absurd h (by decide), by decide +kernel⟩
set_option maxRecDepth 100000 in
theorem cq6_38 : am_CP 6 (38, 0, 2, mX5_readCard) := ⟨moX5_readCard, fun _ => wr40 _ (List.mem_of_getElem? (i := 14) rfl), fun h => absurd h (by decide), fun _ => wr40 _ (List.mem_of_getElem? (i := 15) rfl), fun _ => wr40 _ (List.mem_of_getElem? (i := 16) rfl), fun h => absurd h (by decide), fun h => absurd h (by decide), by decide +kernel⟩
set_option maxRecDepth 100000 in
theorem cq6_42 : am_CP 6 (42, 0, 0, mX10_key) := ⟨moX10_key, fun _ => wr40 _ (List.mem_of_getElem? (i := 18) rfl), fun h => absurd h (by decide), fun _ => wr26 _ (List.mem_of_getElem? (i := 9) rfl), fun _ => wr26 _ (List.mem_of_getElem? (i := 10) rfl), fun h => absurd h (by decide), fun h => absurd h (by decide), by decide +kernel⟩
set_option maxRecDepth 100000 in
theorem cq6_46 : am_CP 6 (46, 0, 1, mX6_ofKey) := ⟨moX6_ofKey, fun _ => wr40 _ (List.mem_of_getElem? (i := 19) rfl), fun h => absurd h (by decide), fun _ => wr40 _ (List.mem_of_getElem? (i := 20) rfl), fun _ => wr40 _ (List.mem_of_getElem? (i := 21) rfl), fun h => absurd h (by decide), fun h => absurd h (by decide), by decide +kernel⟩
set_option maxRecDepth 100000 in
theorem cq6_50 : am_CP 6 (50, 0, 1, mX10_addCard) := ⟨moX10_addCard, fun _ => wr41 _ (List.mem_of_getElem? (i := 4) rfl), fun h => absurd h (by decide), fun _ => wr29 _ (List.mem_of_getElem? (i := 5) rfl), fun _ => wr29 _ (List.mem_of_getElem? (i := 6) rfl), fun h => absurd h (by decide), fun h => absurd h (by decide), by decide +kernel⟩
set_option maxRecDepth 100000 in
theorem cq6_54 : am_CP 6 (54, 0, 1, mX6_at) := ⟨moX6_at, fun _ => wr40 _ (List.mem_of_getElem? (i := 23) rfl), fun h => absurd h (by decide), fun _ => wr41 _ (List.mem_of_getElem? (i := 0) rfl), fun _ => wr41 _ (List.mem_of_getElem? (i := 1) rfl), fun h => absurd h (by decide), fun h => absurd h (by decide), by decide +kernel⟩
set_option maxRecDepth 100000 in
theorem cq6_61 : am_CP 6 (61, 0, 1, mX10_overtimeBeyond) := ⟨moX10_overtimeBeyond, fun _ => wr41 _ (List.mem_of_getElem? (i := 5) rfl), fun h => absurd h (by decide), fun _ => wr27 _ (List.mem_of_getElem? (i := 23) rfl), fun _ => wr28 _ (List.mem_of_getElem? (i := 0) rfl), fun h => absurd h (by decide), fun h => absurd h (by decide), by decide +kernel⟩
set_option maxRecDepth 100000 in
theorem cq6_65 : am_CP 6 (65, 0, 1, mX10_addOvertime) := ⟨moX10_addOvertime, fun _ => wr41 _ (List.mem_of_getElem? (i := 6) rfl), fun h => absurd h (by decide), fun _ => wr28 _ (List.mem_of_getElem? (i := 4) rfl), fun _ => wr28 _ (List.mem_of_getElem? (i := 5) rfl), fun h => absurd h (by decide), fun h => absurd h (by decide), by decide +kernel⟩
set_option maxRecDepth 100000 in
theorem cq6_69 : am_CP 6 (69, 0, 0, mX10_clear) := ⟨moX10_clear, fun _ => wr41 _ (List.mem_of_getElem? (i := 3) rfl), fun h => absurd h (by decide), fun _ => wr24 _ (List.mem_of_getElem? (i := 15) rfl), fun _ => wr24 _ (List.mem_of_getElem? (i := 16) rfl), fun h => absurd h (by decide), fun h => absurd h (by decide), by decide +kernel⟩
set_option maxRecDepth 100000 in
theorem cq6_75 : am_CP 6 (75, 1, 2, mX6_numberOf) := ⟨moX6_numberOf, fun _ => wr41 _ (List.mem_of_getElem? (i := 12) rfl), fun h => absurd h (by decide), fun h => absurd h (by decide), fun h => absurd h (by decide), fun _ => wr41 _ (List.mem_of_getElem? (i := 13) rfl), fun h => absurd h (by decide), by decide +kernel⟩
set_option maxRecDepth 100000 in
theorem cq6_91 : am_CP 6 (91, 1, 2, mX6_isAhead) := ⟨moX6_isAhead, fun _ => wr43 _ (List.mem_of_getElem? (i := 19) rfl), fun h => absurd h (by decide), fun h => absurd h (by decide), fun h => absurd h (by decide), fun _ => wr43 _ (List.mem_of_getElem? (i := 20) rfl), fun h => absurd h (by decide), by decide +kernel⟩
set_option maxRecDepth 100000 in
theorem cq6_95 : am_CP 6 (95, 0, 2, mX6_put) := ⟨moX6_put, fun _ => wr43 _ (List.mem_of_getElem? (i := 22) rfl), fun h => absurd h (by decide), fun _ => wr43 _ (List.mem_of_getElem? (i := 23) rfl), fun _ => wr44 _ (List.mem_of_getElem? (i := 0) rfl), fun h => absurd h (by decide), fun h => absurd h (by decide), by decide +kernel⟩
set_option maxRecDepth 100000 in
theorem cq7_27 : am_CP 7 (27, 0, 0, mX1_size) := ⟨moX1_size, fun _ => wr22 _ (List.mem_of_getElem? (i := 3) rfl), fun h => absurd h (by decide), fun _ => wr13 _ (List.mem_of_getElem? (i := 13) rfl), fun _ => wr13 _ (List.mem_of_getElem? (i := 14) rfl), fun h => absurd h (by decide), fun h => absurd h (by decide), by decide +kernel⟩
set_option maxRecDepth 100000 in
theorem cq7_43 : am_CP 7 (43, 0, 2, mX7_findStarts) := ⟨moX7_findStarts, fun _ => wr22 _ (List.mem_of_getElem? (i := 9) rfl), fun h => absurd h (by decide), fun _ => wr22 _ (List.mem_of_getElem? (i := 10) rfl), fun _ => wr22 _ (List.mem_of_getElem? (i := 11) rfl), fun h => absurd h (by decide), fun h => absurd h (by decide), by decide +kernel⟩
set_option maxRecDepth 100000 in
theorem cq7_47 : am_CP 7 (47, 0, 1, mX1_at) := ⟨moX1_at, fun _ => wr22 _ (List.mem_of_getElem? (i := 13) rfl), fun h => absurd h (by decide), fun _ => wr9 _ (List.mem_of_getElem? (i := 18) rfl), fun _ => wr9 _ (List.mem_of_getElem? (i := 19) rfl), fun h => absurd h (by decide), fun h => absurd h (by decide), by decide +kernel⟩
set_option maxRecDepth 100000 in
theorem cq7_51 : am_CP 7 (51, 1, 2, mX7_stackOf) := ⟨moX7_stackOf, fun _ => wr22 _ (List.mem_of_getElem? (i := 14) rfl), fun h => absurd h (by decide), fun h => absurd h (by decide), fun h => absurd h (by decide), fun _ => wr22 _ (List.mem_of_getElem? (i := 15) rfl), fun h => absurd h (by decide), by decide +kernel⟩
set_option maxRecDepth 100000 in
theorem cq7_61 : am_CP 7 (61, 0, 1, mX0_shows) := ⟨moX0_shows, fun _ => wr22 _ (List.mem_of_getElem? (i := 17) rfl), fun h => absurd h (by decide), fun _ => wr17 _ (List.mem_of_getElem? (i := 6) rfl), fun _ => wr17 _ (List.mem_of_getElem? (i := 7) rfl), fun h => absurd h (by decide), fun h => absurd h (by decide), by decide +kernel⟩
set_option maxRecDepth 100000 in
theorem cq7_65 : am_CP 7 (65, 4, 3, mX11_isWithin) := ⟨moX11_isWithin, fun h => absurd h (by decide), fun _ => List.mem_of_getElem? (i := 15) rfl, fun h => absurd h (by decide), fun h => absurd h (by decide), fun _ => wr8 _ (List.mem_of_getElem? (i := 4) rfl), fun h => absurd h (by decide), by decide +kernel⟩
set_option maxRecDepth 100000 in
theorem cq7_69 : am_CP 7 (69, 0, 2, mX1_put) := ⟨moX1_put, fun _ => wr22 _ (List.mem_of_getElem? (i := 22) rfl), fun h => absurd h (by decide), fun _ => wr16 _ (List.mem_of_getElem? (i := 2) rfl), fun _ => wr16 _ (List.mem_of_getElem? (i := 3) rfl), fun h => absurd h (by decide), fun h => absurd h (by decide), by decide +kernel⟩
set_option maxRecDepth 100000 in
theorem cq7_75 : am_CP 7 (75, 0, 1, mX3_keyOn) := ⟨moX3_keyOn, fun _ => wr36 _ (List.mem_of_getElem? (i := 7) rfl), fun h => absurd h (by decide), fun _ => wr36 _ (List.mem_of_getElem? (i := 8) rfl), fun _ => wr36 _ (List.mem_of_getElem? (i := 9) rfl), fun h => absurd h (by decide), fun h => absurd h (by decide), by decide +kernel⟩
set_option maxRecDepth 100000 in
theorem cq8_11 : am_CP 8 (11, 5, 0, mX3_init) := ⟨moX3_init, fun h => absurd h (by decide), fun _ => List.mem_of_getElem? (i := 1) rfl, fun _ => wr3 _ (List.mem_of_getElem? (i := 16) rfl), fun h => absurd h (by decide), fun h => absurd h (by decide), fun _ => ⟨rfl, rfl⟩, by decide +kernel⟩
set_option maxRecDepth 100000 in
theorem cq8_20 : am_CP 8 (20, 2, 0, mX1_init) := ⟨moX1_init, fun _ => wr3 _ (List.mem_of_getElem? (i := 21) rfl), fun h => absurd h (by decide), fun _ => wr3 _ (List.mem_of_getElem? (i := 22) rfl), fun h => absurd h (by decide), fun h => absurd h (by decide), fun _ => ⟨rfl, rfl⟩, by decide +kernel⟩
set_option maxRecDepth 100000 in
theorem cq8_27 : am_CP 8 (27, 5, 0, mX5_init) := ⟨moX5_init, fun h => absurd h (by decide), fun _ => List.mem_of_getElem? (i := 2) rfl, fun _ => wr4 _ (List.mem_of_getElem? (i := 16) rfl), fun h => absurd h (by decide), fun h => absurd h (by decide), fun _ => ⟨rfl, rfl⟩, by decide +kernel⟩
set_option maxRecDepth 100000 in
theorem cq8_40 : am_CP 8 (40, 4, 1, mX11_isSetting) := ⟨moX11_isSetting, fun h => absurd h (by decide), fun _ => List.mem_of_getElem? (i := 12) rfl, fun h => absurd h (by decide), fun h => absurd h (by decide), fun _ => wr11 _ (List.mem_of_getElem? (i := 21) rfl), fun h => absurd h (by decide), by decide +kernel⟩
set_option maxRecDepth 100000 in
theorem cq8_44 : am_CP 8 (44, 0, 1, mX3_copyFrom) := ⟨moX3_copyFrom, fun _ => wr9 _ (List.mem_of_getElem? (i := 7) rfl), fun h => absurd h (by decide), fun _ => wr9 _ (List.mem_of_getElem? (i := 8) rfl), fun _ => wr9 _ (List.mem_of_getElem? (i := 9) rfl), fun h => absurd h (by decide), fun h => absurd h (by decide), by decide +kernel⟩
set_option maxRecDepth 100000 in
theorem cq8_48 : am_CP 8 (48, 0, 1, mX1_copyFrom) := ⟨moX1_copyFrom, fun _ => wr9 _ (List.mem_of_getElem? (i := 12) rfl), fun h => absurd h (by decide), fun _ => wr9 _ (List.mem_of_getElem? (i := 13) rfl), fun _ => wr9 _ (List.mem_of_getElem? (i := 14) rfl), fun h => absurd h (by decide), fun h => absurd h (by decide), by decide +kernel⟩
set_option maxRecDepth 100000 in
theorem cq8_51 : am_CP 8 (51, 0, 1, mX5_copyFrom) := ⟨moX5_copyFrom, fun _ => wr10 _ (List.mem_of_getElem? (i := 2) rfl), fun h => absurd h (by decide), fun _ => wr10 _ (List.mem_of_getElem? (i := 3) rfl), fun _ => wr10 _ (List.mem_of_getElem? (i := 4) rfl), fun h => absurd h (by decide), fun h => absurd h (by decide), by decide +kernel⟩
set_option maxRecDepth 100000 in
theorem cq9_35 : am_CP 9 (35, 0, 1, mX9_readBetweenWords) := ⟨moX9_readBetweenWords, fun _ => wr13 _ (List.mem_of_getElem? (i := 22) rfl), fun h => absurd h (by decide), fun _ => wr13 _ (List.mem_of_getElem? (i := 23) rfl), fun _ => wr14 _ (List.mem_of_getElem? (i := 0) rfl), fun h => absurd h (by decide), fun h => absurd h (by decide), by decide +kernel⟩
set_option maxRecDepth 100000 in
theorem cq9_39 : am_CP 9 (39, 0, 2, mX9_readInWord) := ⟨moX9_readInWord, fun _ => wr14 _ (List.mem_of_getElem? (i := 16) rfl), fun h => absurd h (by decide), fun _ => wr14 _ (List.mem_of_getElem? (i := 17) rfl), fun _ => wr14 _ (List.mem_of_getElem? (i := 18) rfl), fun h => absurd h (by decide), fun h => absurd h (by decide), by decide +kernel⟩
set_option maxRecDepth 100000 in
theorem cq9_43 : am_CP 9 (43, 0, 2, mX9_noteFault) := ⟨moX9_noteFault, fun _ => wr15 _ (List.mem_of_getElem? (i := 4) rfl), fun h => absurd h (by decide), fun _ => wr15 _ (List.mem_of_getElem? (i := 5) rfl), fun _ => wr15 _ (List.mem_of_getElem? (i := 6) rfl), fun h => absurd h (by decide), fun h => absurd h (by decide), by decide +kernel⟩
set_option maxRecDepth 100000 in
theorem cq9_47 : am_CP 9 (47, 0, 0, mX9_hasWord) := ⟨moX9_hasWord, fun _ => wr15 _ (List.mem_of_getElem? (i := 8) rfl), fun h => absurd h (by decide), fun _ => wr15 _ (List.mem_of_getElem? (i := 9) rfl), fun _ => wr15 _ (List.mem_of_getElem? (i := 10) rfl), fun h => absurd h (by decide), fun h => absurd h (by decide), by decide +kernel⟩
set_option maxRecDepth 100000 in
theorem cq9_51 : am_CP 9 (51, 0, 0, mX9_endsBehindLetter) := ⟨moX9_endsBehindLetter, fun _ => wr15 _ (List.mem_of_getElem? (i := 12) rfl), fun h => absurd h (by decide), fun _ => wr15 _ (List.mem_of_getElem? (i := 13) rfl), fun _ => wr15 _ (List.mem_of_getElem? (i := 14) rfl), fun h => absurd h (by decide), fun h => absurd h (by decide), by decide +kernel⟩
set_option maxRecDepth 100000 in
theorem cq9_54 : am_CP 9 (54, 0, 1, mX9_at) := ⟨moX9_at, fun _ => wr14 _ (List.mem_of_getElem? (i := 2) rfl), fun h => absurd h (by decide), fun _ => wr14 _ (List.mem_of_getElem? (i := 3) rfl), fun _ => wr14 _ (List.mem_of_getElem? (i := 4) rfl), fun h => absurd h (by decide), fun h => absurd h (by decide), by decide +kernel⟩
set_option maxRecDepth 100000 in
theorem cq9_57 : am_CP 9 (57, 1, 1, mX9_fieldOf) := ⟨moX9_fieldOf, fun _ => wr14 _ (List.mem_of_getElem? (i := 6) rfl), fun h => absurd h (by decide), fun h => absurd h (by decide), fun h => absurd h (by decide), fun _ => wr14 _ (List.mem_of_getElem? (i := 7) rfl), fun h => absurd h (by decide), by decide +kernel⟩
set_option maxRecDepth 100000 in
theorem cq9_60 : am_CP 9 (60, 0, 1, mX9_digitsOf) := ⟨moX9_digitsOf, fun _ => wr14 _ (List.mem_of_getElem? (i := 9) rfl), fun h => absurd h (by decide), fun _ => wr14 _ (List.mem_of_getElem? (i := 10) rfl), fun _ => wr14 _ (List.mem_of_getElem? (i := 11) rfl), fun h => absurd h (by decide), fun h => absurd h (by decide), by decide +kernel⟩
set_option maxRecDepth 100000 in
theorem cq9_63 : am_CP 9 (63, 1, 1, mX9_isTextField) := ⟨moX9_isTextField, fun _ => wr14 _ (List.mem_of_getElem? (i := 13) rfl), fun h => absurd h (by decide), fun h => absurd h (by decide), fun h => absurd h (by decide), fun _ => wr14 _ (List.mem_of_getElem? (i := 14) rfl), fun h => absurd h (by decide), by decide +kernel⟩
set_option maxRecDepth 100000 in
theorem cq9_67 : am_CP 9 (67, 4, 3, mX11_isWithin) := ⟨moX11_isWithin, fun h => absurd h (by decide), fun _ => List.mem_of_getElem? (i := 13) rfl, fun h => absurd h (by decide), fun h => absurd h (by decide), fun _ => wr8 _ (List.mem_of_getElem? (i := 4) rfl), fun h => absurd h (by decide), by decide +kernel⟩
set_option maxRecDepth 100000 in
theorem cq9_71 : am_CP 9 (71, 0, 1, mX3_widthOf) := ⟨moX3_widthOf, fun _ => wr14 _ (List.mem_of_getElem? (i := 20) rfl), fun h => absurd h (by decide), fun _ => wr14 _ (List.mem_of_getElem? (i := 21) rfl), fun _ => wr14 _ (List.mem_of_getElem? (i := 22) rfl), fun h => absurd h (by decide), fun h => absurd h (by decide), by decide +kernel⟩
set_option maxRecDepth 100000 in
theorem cq9_76 : am_CP 9 (76, 0, 1, mX9_countDigit) := ⟨moX9_countDigit, fun _ => wr15 _ (List.mem_of_getElem? (i := 0) rfl), fun h => absurd h (by decide), fun _ => wr15 _ (List.mem_of_getElem? (i := 1) rfl), fun _ => wr15 _ (List.mem_of_getElem? (i := 2) rfl), fun h => absurd h (by decide), fun h => absurd h (by decide), by decide +kernel⟩
set_option maxRecDepth 100000 in
theorem cq9_79 : am_CP 9 (79, 0, 3, mX9_punchNumber) := ⟨moX9_punchNumber, fun _ => wr16 _ (List.mem_of_getElem? (i := 9) rfl), fun h => absurd h (by decide), fun _ => wr16 _ (List.mem_of_getElem? (i := 10) rfl), fun _ => wr16 _ (List.mem_of_getElem? (i := 11) rfl), fun h => absurd h (by decide), fun h => absurd h (by decide), by decide +kernel⟩
set_option maxRecDepth 100000 in
theorem cq9_83 : am_CP 9 (83, 0, 1, mX3_firstOf) := ⟨moX3_firstOf, fun _ => wr16 _ (List.mem_of_getElem? (i := 13) rfl), fun h => absurd h (by decide), fun _ => wr10 _ (List.mem_of_getElem? (i := 11) rfl), fun _ => wr10 _ (List.mem_of_getElem? (i := 12) rfl), fun h => absurd h (by decide), fun h => absurd h (by decide), by decide +kernel⟩
set_option maxRecDepth 100000 in
theorem cq9_86 : am_CP 9 (86, 0, 2, mX0_show) := ⟨moX0_show, fun _ => wr16 _ (List.mem_of_getElem? (i := 14) rfl), fun h => absurd h (by decide), fun _ => wr16 _ (List.mem_of_getElem? (i := 15) rfl), fun _ => wr16 _ (List.mem_of_getElem? (i := 16) rfl), fun h => absurd h (by decide), fun h => absurd h (by decide), by decide +kernel⟩
set_option maxRecDepth 100000 in
theorem cq10_23 : am_CP 10 (23, 1, 3, mX10_keyOf) := ⟨moX10_keyOf, fun _ => wr26 _ (List.mem_of_getElem? (i := 12) rfl), fun h => absurd h (by decide), fun h => absurd h (by decide), fun h => absurd h (by decide), fun _ => wr26 _ (List.mem_of_getElem? (i := 13) rfl), fun h => absurd h (by decide), by decide +kernel⟩
set_option maxRecDepth 100000 in
theorem cq10_42 : am_CP 10 (42, 0, 2, mX3_valueOn) := ⟨moX3_valueOn, fun _ => wr26 _ (List.mem_of_getElem? (i := 3) rfl), fun h => absurd h (by decide), fun _ => wr26 _ (List.mem_of_getElem? (i := 4) rfl), fun _ => wr26 _ (List.mem_of_getElem? (i := 5) rfl), fun h => absurd h (by decide), fun h => absurd h (by decide), by decide +kernel⟩
set_option maxRecDepth 100000 in
theorem cq11_11 : am_CP 11 (11, 5, 0, mX8_init) := ⟨moX8_init, fun h => absurd h (by decide), fun _ => List.mem_of_getElem? (i := 0) rfl, fun _ => wr2 _ (List.mem_of_getElem? (i := 21) rfl), fun h => absurd h (by decide), fun h => absurd h (by decide), fun _ => ⟨rfl, rfl⟩, by decide +kernel⟩
set_option maxRecDepth 100000 in
theorem cq11_18 : am_CP 11 (18, 5, 0, mX2_init) := ⟨moX2_init, fun h => absurd h (by decide), fun _ => List.mem_of_getElem? (i := 3) rfl, fun _ => wr4 _ (List.mem_of_getElem? (i := 21) rfl), fun h => absurd h (by decide), fun h => absurd h (by decide), fun _ => ⟨rfl, rfl⟩, by decide +kernel⟩
set_option maxRecDepth 100000 in
theorem cq11_29 : am_CP 11 (29, 5, 0, mX9_init) := ⟨moX9_init, fun h => absurd h (by decide), fun _ => List.mem_of_getElem? (i := 4) rfl, fun _ => wr5 _ (List.mem_of_getElem? (i := 2) rfl), fun h => absurd h (by decide), fun h => absurd h (by decide), fun _ => ⟨rfl, rfl⟩, by decide +kernel⟩
set_option maxRecDepth 100000 in
theorem cq11_36 : am_CP 11 (36, 5, 0, mX7_init) := ⟨moX7_init, fun h => absurd h (by decide), fun _ => List.mem_of_getElem? (i := 5) rfl, fun _ => wr5 _ (List.mem_of_getElem? (i := 11) rfl), fun h => absurd h (by decide), fun h => absurd h (by decide), fun _ => ⟨rfl, rfl⟩, by decide +kernel⟩
set_option maxRecDepth 100000 in
theorem cq11_43 : am_CP 11 (43, 5, 0, mX4_init) := ⟨moX4_init, fun h => absurd h (by decide), fun _ => List.mem_of_getElem? (i := 6) rfl, fun _ => wr5 _ (List.mem_of_getElem? (i := 19) rfl), fun h => absurd h (by decide), fun h => absurd h (by decide), fun _ => ⟨rfl, rfl⟩, by decide +kernel⟩
set_option maxRecDepth 100000 in
theorem cq11_50 : am_CP 11 (50, 2, 0, mX6_init) := ⟨moX6_init, fun _ => wr6 _ (List.mem_of_getElem? (i := 6) rfl), fun h => absurd h (by decide), fun _ => wr6 _ (List.mem_of_getElem? (i := 7) rfl), fun h => absurd h (by decide), fun h => absurd h (by decide), fun _ => ⟨rfl, rfl⟩, by decide +kernel⟩
set_option maxRecDepth 100000 in
theorem cq11_57 : am_CP 11 (57, 2, 0, mX0_init) := ⟨moX0_init, fun _ => wr6 _ (List.mem_of_getElem? (i := 14) rfl), fun h => absurd h (by decide), fun _ => wr4 _ (List.mem_of_getElem? (i := 5) rfl), fun h => absurd h (by decide), fun h => absurd h (by decide), fun _ => ⟨rfl, rfl⟩, by decide +kernel⟩
set_option maxRecDepth 100000 in
theorem cq11_64 : am_CP 11 (64, 5, 0, mX10_init) := ⟨moX10_init, fun h => absurd h (by decide), fun _ => List.mem_of_getElem? (i := 9) rfl, fun _ => wr6 _ (List.mem_of_getElem? (i := 3) rfl), fun h => absurd h (by decide), fun h => absurd h (by decide), fun _ => ⟨rfl, rfl⟩, by decide +kernel⟩
set_option maxRecDepth 100000 in
theorem cq11_69 : am_CP 11 (69, 1, 1, mX11_isField) := ⟨moX11_isField, fun _ => wr7 _ (List.mem_of_getElem? (i := 21) rfl), fun h => absurd h (by decide), fun h => absurd h (by decide), fun h => absurd h (by decide), fun _ => wr7 _ (List.mem_of_getElem? (i := 22) rfl), fun h => absurd h (by decide), by decide +kernel⟩
set_option maxRecDepth 100000 in
theorem cq11_73 : am_CP 11 (73, 1, 3, mX11_fits) := ⟨moX11_fits, fun _ => wr8 _ (List.mem_of_getElem? (i := 0) rfl), fun h => absurd h (by decide), fun h => absurd h (by decide), fun h => absurd h (by decide), fun _ => wr8 _ (List.mem_of_getElem? (i := 1) rfl), fun h => absurd h (by decide), by decide +kernel⟩
set_option maxRecDepth 100000 in
theorem cq11_78 : am_CP 11 (78, 0, 1, mX2_record) := ⟨moX2_record, fun _ => wr8 _ (List.mem_of_getElem? (i := 9) rfl), fun h => absurd h (by decide), fun _ => wr8 _ (List.mem_of_getElem? (i := 10) rfl), fun _ => wr8 _ (List.mem_of_getElem? (i := 11) rfl), fun h => absurd h (by decide), fun h => absurd h (by decide), by decide +kernel⟩
set_option maxRecDepth 100000 in
theorem cq11_86 : am_CP 11 (86, 0, 1, mX3_firstOf) := ⟨moX3_firstOf, fun _ => wr10 _ (List.mem_of_getElem? (i := 10) rfl), fun h => absurd h (by decide), fun _ => wr10 _ (List.mem_of_getElem? (i := 11) rfl), fun _ => wr10 _ (List.mem_of_getElem? (i := 12) rfl), fun h => absurd h (by decide), fun h => absurd h (by decide), by decide +kernel⟩
set_option maxRecDepth 100000 in
theorem cq11_92 : am_CP 11 (92, 0, 3, mX3_place) := ⟨moX3_place, fun _ => wr10 _ (List.mem_of_getElem? (i := 14) rfl), fun h => absurd h (by decide), fun _ => wr10 _ (List.mem_of_getElem? (i := 15) rfl), fun _ => wr10 _ (List.mem_of_getElem? (i := 16) rfl), fun h => absurd h (by decide), fun h => absurd h (by decide), by decide +kernel⟩
set_option maxRecDepth 100000 in
theorem cq11_96 : am_CP 11 (96, 1, 1, mX11_isSetting) := ⟨moX11_isSetting, fun _ => wr11 _ (List.mem_of_getElem? (i := 20) rfl), fun h => absurd h (by decide), fun h => absurd h (by decide), fun h => absurd h (by decide), fun _ => wr11 _ (List.mem_of_getElem? (i := 21) rfl), fun h => absurd h (by decide), by decide +kernel⟩
set_option maxRecDepth 100000 in
theorem cq11_103 : am_CP 11 (103, 1, 3, mX11_isWithin) := ⟨moX11_isWithin, fun _ => wr8 _ (List.mem_of_getElem? (i := 3) rfl), fun h => absurd h (by decide), fun h => absurd h (by decide), fun h => absurd h (by decide), fun _ => wr8 _ (List.mem_of_getElem? (i := 4) rfl), fun h => absurd h (by decide), by decide +kernel⟩
set_option maxRecDepth 100000 in
theorem cq11_106 : am_CP 11 (106, 0, 1, mX8_settingOf) := ⟨moX8_settingOf, fun _ => wr11 _ (List.mem_of_getElem? (i := 23) rfl), fun h => absurd h (by decide), fun _ => wr12 _ (List.mem_of_getElem? (i := 0) rfl), fun _ => wr12 _ (List.mem_of_getElem? (i := 1) rfl), fun h => absurd h (by decide), fun h => absurd h (by decide), by decide +kernel⟩
set_option maxRecDepth 100000 in
theorem cq11_112 : am_CP 11 (112, 1, 1, mX11_isControl) := ⟨moX11_isControl, fun _ => wr12 _ (List.mem_of_getElem? (i := 21) rfl), fun h => absurd h (by decide), fun h => absurd h (by decide), fun h => absurd h (by decide), fun _ => wr12 _ (List.mem_of_getElem? (i := 22) rfl), fun h => absurd h (by decide), by decide +kernel⟩
set_option maxRecDepth 100000 in
theorem cq11_124 : am_CP 11 (124, 0, 0, mX1_size) := ⟨moX1_size, fun _ => wr13 _ (List.mem_of_getElem? (i := 12) rfl), fun h => absurd h (by decide), fun _ => wr13 _ (List.mem_of_getElem? (i := 13) rfl), fun _ => wr13 _ (List.mem_of_getElem? (i := 14) rfl), fun h => absurd h (by decide), fun h => absurd h (by decide), by decide +kernel⟩
set_option maxRecDepth 100000 in
theorem cq11_130 : am_CP 11 (130, 0, 1, mX9_readsAsCard) := ⟨moX9_readsAsCard, fun _ => wr13 _ (List.mem_of_getElem? (i := 16) rfl), fun h => absurd h (by decide), fun _ => wr13 _ (List.mem_of_getElem? (i := 17) rfl), fun _ => wr13 _ (List.mem_of_getElem? (i := 18) rfl), fun h => absurd h (by decide), fun h => absurd h (by decide), by decide +kernel⟩
set_option maxRecDepth 100000 in
theorem cq11_136 : am_CP 11 (136, 0, 1, mX1_insertBlank) := ⟨moX1_insertBlank, fun _ => wr15 _ (List.mem_of_getElem? (i := 16) rfl), fun h => absurd h (by decide), fun _ => wr15 _ (List.mem_of_getElem? (i := 17) rfl), fun _ => wr15 _ (List.mem_of_getElem? (i := 18) rfl), fun h => absurd h (by decide), fun h => absurd h (by decide), by decide +kernel⟩
set_option maxRecDepth 100000 in
theorem cq11_140 : am_CP 11 (140, 0, 2, mX9_punchOn) := ⟨moX9_punchOn, fun _ => wr16 _ (List.mem_of_getElem? (i := 5) rfl), fun h => absurd h (by decide), fun _ => wr16 _ (List.mem_of_getElem? (i := 6) rfl), fun _ => wr16 _ (List.mem_of_getElem? (i := 7) rfl), fun h => absurd h (by decide), fun h => absurd h (by decide), by decide +kernel⟩
set_option maxRecDepth 100000 in
theorem cq11_144 : am_CP 11 (144, 0, 1, mX3_dueOn) := ⟨moX3_dueOn, fun _ => wr16 _ (List.mem_of_getElem? (i := 18) rfl), fun h => absurd h (by decide), fun _ => wr16 _ (List.mem_of_getElem? (i := 19) rfl), fun _ => wr16 _ (List.mem_of_getElem? (i := 20) rfl), fun h => absurd h (by decide), fun h => absurd h (by decide), by decide +kernel⟩
set_option maxRecDepth 100000 in
theorem cq11_148 : am_CP 11 (148, 0, 2, mX0_show) := ⟨moX0_show, fun _ => wr17 _ (List.mem_of_getElem? (i := 9) rfl), fun h => absurd h (by decide), fun _ => wr16 _ (List.mem_of_getElem? (i := 15) rfl), fun _ => wr16 _ (List.mem_of_getElem? (i := 16) rfl), fun h => absurd h (by decide), fun h => absurd h (by decide), by decide +kernel⟩
set_option maxRecDepth 100000 in
theorem cq11_152 : am_CP 11 (152, 0, 1, mX1_has) := ⟨moX1_has, fun _ => wr19 _ (List.mem_of_getElem? (i := 2) rfl), fun h => absurd h (by decide), fun _ => wr19 _ (List.mem_of_getElem? (i := 3) rfl), fun _ => wr19 _ (List.mem_of_getElem? (i := 4) rfl), fun h => absurd h (by decide), fun h => absurd h (by decide), by decide +kernel⟩
set_option maxRecDepth 100000 in
theorem cq11_155 : am_CP 11 (155, 0, 1, mX1_remove) := ⟨moX1_remove, fun _ => wr19 _ (List.mem_of_getElem? (i := 6) rfl), fun h => absurd h (by decide), fun _ => wr19 _ (List.mem_of_getElem? (i := 7) rfl), fun _ => wr19 _ (List.mem_of_getElem? (i := 8) rfl), fun h => absurd h (by decide), fun h => absurd h (by decide), by decide +kernel⟩
set_option maxRecDepth 100000 in
theorem cq11_159 : am_CP 11 (159, 0, 2, mX1_carry) := ⟨moX1_carry, fun _ => wr20 _ (List.mem_of_getElem? (i := 3) rfl), fun h => absurd h (by decide), fun _ => wr15 _ (List.mem_of_getElem? (i := 22) rfl), fun _ => wr15 _ (List.mem_of_getElem? (i := 23) rfl), fun h => absurd h (by decide), fun h => absurd h (by decide), by decide +kernel⟩
set_option maxRecDepth 100000 in
theorem cq11_167 : am_CP 11 (167, 1, 1, mX11_isColumn) := ⟨moX11_isColumn, fun _ => wr8 _ (List.mem_of_getElem? (i := 6) rfl), fun h => absurd h (by decide), fun h => absurd h (by decide), fun h => absurd h (by decide), fun _ => wr8 _ (List.mem_of_getElem? (i := 7) rfl), fun h => absurd h (by decide), by decide +kernel⟩
set_option maxRecDepth 100000 in
theorem cq11_170 : am_CP 11 (170, 0, 1, mX1_at) := ⟨moX1_at, fun _ => wr20 _ (List.mem_of_getElem? (i := 20) rfl), fun h => absurd h (by decide), fun _ => wr9 _ (List.mem_of_getElem? (i := 18) rfl), fun _ => wr9 _ (List.mem_of_getElem? (i := 19) rfl), fun h => absurd h (by decide), fun h => absurd h (by decide), by decide +kernel⟩
set_option maxRecDepth 100000 in
theorem cq11_173 : am_CP 11 (173, 0, 1, mX0_shows) := ⟨moX0_shows, fun _ => wr20 _ (List.mem_of_getElem? (i := 21) rfl), fun h => absurd h (by decide), fun _ => wr17 _ (List.mem_of_getElem? (i := 6) rfl), fun _ => wr17 _ (List.mem_of_getElem? (i := 7) rfl), fun h => absurd h (by decide), fun h => absurd h (by decide), by decide +kernel⟩
set_option maxRecDepth 100000 in
theorem cq11_183 : am_CP 11 (183, 0, 1, mX7_begin) := ⟨moX7_begin, fun _ => wr21 _ (List.mem_of_getElem? (i := 19) rfl), fun h => absurd h (by decide), fun _ => wr21 _ (List.mem_of_getElem? (i := 20) rfl), fun _ => wr21 _ (List.mem_of_getElem? (i := 21) rfl), fun h => absurd h (by decide), fun h => absurd h (by decide), by decide +kernel⟩
set_option maxRecDepth 100000 in
theorem cq11_187 : am_CP 11 (187, 0, 2, mX7_passBy) := ⟨moX7_passBy, fun _ => wr22 _ (List.mem_of_getElem? (i := 4) rfl), fun h => absurd h (by decide), fun _ => wr22 _ (List.mem_of_getElem? (i := 5) rfl), fun _ => wr22 _ (List.mem_of_getElem? (i := 6) rfl), fun h => absurd h (by decide), fun h => absurd h (by decide), by decide +kernel⟩
set_option maxRecDepth 100000 in
theorem cq11_191 : am_CP 11 (191, 0, 1, mX7_arrange) := ⟨moX7_arrange, fun _ => wr22 _ (List.mem_of_getElem? (i := 18) rfl), fun h => absurd h (by decide), fun _ => wr22 _ (List.mem_of_getElem? (i := 19) rfl), fun _ => wr22 _ (List.mem_of_getElem? (i := 20) rfl), fun h => absurd h (by decide), fun h => absurd h (by decide), by decide +kernel⟩
set_option maxRecDepth 100000 in
theorem cq11_195 : am_CP 11 (195, 0, 1, mX3_widthOf) := ⟨moX3_widthOf, fun _ => wr23 _ (List.mem_of_getElem? (i := 19) rfl), fun h => absurd h (by decide), fun _ => wr14 _ (List.mem_of_getElem? (i := 21) rfl), fun _ => wr14 _ (List.mem_of_getElem? (i := 22) rfl), fun h => absurd h (by decide), fun h => absurd h (by decide), by decide +kernel⟩
set_option maxRecDepth 100000 in
theorem cq11_202 : am_CP 11 (202, 0, 2, mX5_begin) := ⟨moX5_begin, fun _ => wr24 _ (List.mem_of_getElem? (i := 5) rfl), fun h => absurd h (by decide), fun _ => wr24 _ (List.mem_of_getElem? (i := 6) rfl), fun _ => wr24 _ (List.mem_of_getElem? (i := 7) rfl), fun h => absurd h (by decide), fun h => absurd h (by decide), by decide +kernel⟩
set_option maxRecDepth 100000 in
theorem cq11_206 : am_CP 11 (206, 0, 0, mX4_begin) := ⟨moX4_begin, fun _ => wr24 _ (List.mem_of_getElem? (i := 10) rfl), fun h => absurd h (by decide), fun _ => wr24 _ (List.mem_of_getElem? (i := 11) rfl), fun _ => wr24 _ (List.mem_of_getElem? (i := 12) rfl), fun h => absurd h (by decide), fun h => absurd h (by decide), by decide +kernel⟩
set_option maxRecDepth 100000 in
theorem cq11_208 : am_CP 11 (208, 0, 2, mX11_feedDeck) := ⟨moX11_feedDeck, fun _ => wr25 _ (List.mem_of_getElem? (i := 2) rfl), fun h => absurd h (by decide), fun _ => wr25 _ (List.mem_of_getElem? (i := 3) rfl), fun _ => wr25 _ (List.mem_of_getElem? (i := 4) rfl), fun h => absurd h (by decide), fun h => absurd h (by decide), by decide +kernel⟩
set_option maxRecDepth 100000 in
theorem cq11_212 : am_CP 11 (212, 0, 1, mX4_end) := ⟨moX4_end, fun _ => wr29 _ (List.mem_of_getElem? (i := 8) rfl), fun h => absurd h (by decide), fun _ => wr29 _ (List.mem_of_getElem? (i := 9) rfl), fun _ => wr29 _ (List.mem_of_getElem? (i := 10) rfl), fun h => absurd h (by decide), fun h => absurd h (by decide), by decide +kernel⟩
set_option maxRecDepth 100000 in
theorem cq11_216 : am_CP 11 (216, 0, 0, mX2_isEmpty) := ⟨moX2_isEmpty, fun _ => wr32 _ (List.mem_of_getElem? (i := 10) rfl), fun h => absurd h (by decide), fun _ => wr32 _ (List.mem_of_getElem? (i := 11) rfl), fun _ => wr32 _ (List.mem_of_getElem? (i := 12) rfl), fun h => absurd h (by decide), fun h => absurd h (by decide), by decide +kernel⟩
set_option maxRecDepth 100000 in
theorem cq11_220 : am_CP 11 (220, 0, 1, mX2_restoreInto) := ⟨moX2_restoreInto, fun _ => wr32 _ (List.mem_of_getElem? (i := 14) rfl), fun h => absurd h (by decide), fun _ => wr32 _ (List.mem_of_getElem? (i := 15) rfl), fun _ => wr32 _ (List.mem_of_getElem? (i := 16) rfl), fun h => absurd h (by decide), fun h => absurd h (by decide), by decide +kernel⟩
set_option maxRecDepth 100000 in
theorem cq11_223 : am_CP 11 (223, 0, 0, mX2_size) := ⟨moX2_size, fun _ => wr32 _ (List.mem_of_getElem? (i := 18) rfl), fun h => absurd h (by decide), fun _ => wr32 _ (List.mem_of_getElem? (i := 19) rfl), fun _ => wr32 _ (List.mem_of_getElem? (i := 20) rfl), fun h => absurd h (by decide), fun h => absurd h (by decide), by decide +kernel⟩
set_option maxRecDepth 100000 in
theorem cq11_224 : am_CP 11 (224, 0, 0, mX9_size) := ⟨moX9_size, fun _ => wr33 _ (List.mem_of_getElem? (i := 6) rfl), fun h => absurd h (by decide), fun _ => wr33 _ (List.mem_of_getElem? (i := 7) rfl), fun _ => wr33 _ (List.mem_of_getElem? (i := 8) rfl), fun h => absurd h (by decide), fun h => absurd h (by decide), by decide +kernel⟩
set_option maxRecDepth 100000 in
theorem cq11_225 : am_CP 11 (225, 0, 1, mX9_append) := ⟨moX9_append, fun _ => wr33 _ (List.mem_of_getElem? (i := 10) rfl), fun h => absurd h (by decide), fun _ => wr33 _ (List.mem_of_getElem? (i := 11) rfl), fun _ => wr33 _ (List.mem_of_getElem? (i := 12) rfl), fun h => absurd h (by decide), fun h => absurd h (by decide), by decide +kernel⟩
set_option maxRecDepth 100000 in
theorem cq11_228 : am_CP 11 (228, 0, 0, mX9_clear) := ⟨moX9_clear, fun _ => wr33 _ (List.mem_of_getElem? (i := 22) rfl), fun h => absurd h (by decide), fun _ => wr33 _ (List.mem_of_getElem? (i := 23) rfl), fun _ => wr34 _ (List.mem_of_getElem? (i := 0) rfl), fun h => absurd h (by decide), fun h => absurd h (by decide), by decide +kernel⟩
set_option maxRecDepth 100000 in
theorem cq11_240 : am_CP 11 (240, 0, 0, mX5_isEmpty) := ⟨moX5_isEmpty, fun _ => wr34 _ (List.mem_of_getElem? (i := 21) rfl), fun h => absurd h (by decide), fun _ => wr34 _ (List.mem_of_getElem? (i := 22) rfl), fun _ => wr34 _ (List.mem_of_getElem? (i := 23) rfl), fun h => absurd h (by decide), fun h => absurd h (by decide), by decide +kernel⟩
set_option maxRecDepth 100000 in
theorem cq11_241 : am_CP 11 (241, 0, 1, mX5_lastLine) := ⟨moX5_lastLine, fun _ => wr35 _ (List.mem_of_getElem? (i := 1) rfl), fun h => absurd h (by decide), fun _ => wr35 _ (List.mem_of_getElem? (i := 2) rfl), fun _ => wr35 _ (List.mem_of_getElem? (i := 3) rfl), fun h => absurd h (by decide), fun h => absurd h (by decide), by decide +kernel⟩
set_option maxRecDepth 100000 in
theorem cq11_244 : am_CP 11 (244, 0, 0, mX5_refusedCards) := ⟨moX5_refusedCards, fun _ => wr35 _ (List.mem_of_getElem? (i := 13) rfl), fun h => absurd h (by decide), fun _ => wr35 _ (List.mem_of_getElem? (i := 14) rfl), fun _ => wr35 _ (List.mem_of_getElem? (i := 15) rfl), fun h => absurd h (by decide), fun h => absurd h (by decide), by decide +kernel⟩
set_option maxRecDepth 100000 in
theorem cq11_247 : am_CP 11 (247, 0, 0, mX11_isDeckInOrder) := ⟨moX11_isDeckInOrder, fun _ => wr35 _ (List.mem_of_getElem? (i := 22) rfl), fun h => absurd h (by decide), fun _ => wr35 _ (List.mem_of_getElem? (i := 23) rfl), fun _ => wr36 _ (List.mem_of_getElem? (i := 0) rfl), fun h => absurd h (by decide), fun h => absurd h (by decide), by decide +kernel⟩
set_option maxRecDepth 100000 in
theorem cq11_250 : am_CP 11 (250, 0, 2, mX3_valueOn) := ⟨moX3_valueOn, fun _ => wr26 _ (List.mem_of_getElem? (i := 7) rfl), fun h => absurd h (by decide), fun _ => wr26 _ (List.mem_of_getElem? (i := 4) rfl), fun _ => wr26 _ (List.mem_of_getElem? (i := 5) rfl), fun h => absurd h (by decide), fun h => absurd h (by decide), by decide +kernel⟩
set_option maxRecDepth 100000 in
theorem cq11_254 : am_CP 11 (254, 0, 1, mX11_faultOfCard) := ⟨moX11_faultOfCard, fun _ => wr25 _ (List.mem_of_getElem? (i := 11) rfl), fun h => absurd h (by decide), fun _ => wr25 _ (List.mem_of_getElem? (i := 12) rfl), fun _ => wr25 _ (List.mem_of_getElem? (i := 13) rfl), fun h => absurd h (by decide), fun h => absurd h (by decide), by decide +kernel⟩
set_option maxRecDepth 100000 in
theorem cq11_257 : am_CP 11 (257, 0, 1, mX5_has) := ⟨moX5_has, fun _ => wr38 _ (List.mem_of_getElem? (i := 14) rfl), fun h => absurd h (by decide), fun _ => wr35 _ (List.mem_of_getElem? (i := 10) rfl), fun _ => wr35 _ (List.mem_of_getElem? (i := 11) rfl), fun h => absurd h (by decide), fun h => absurd h (by decide), by decide +kernel⟩
set_option maxRecDepth 100000 in
theorem cq11_258 : am_CP 11 (258, 0, 2, mX5_number) := ⟨moX5_number, fun _ => wr38 _ (List.mem_of_getElem? (i := 15) rfl), fun h => absurd h (by decide), fun _ => wr35 _ (List.mem_of_getElem? (i := 6) rfl), fun _ => wr35 _ (List.mem_of_getElem? (i := 7) rfl), fun h => absurd h (by decide), fun h => absurd h (by decide), by decide +kernel⟩
set_option maxRecDepth 100000 in
theorem cq11_262 : am_CP 11 (262, 0, 1, mX5_hadCard) := ⟨moX5_hadCard, fun _ => wr39 _ (List.mem_of_getElem? (i := 0) rfl), fun h => absurd h (by decide), fun _ => wr27 _ (List.mem_of_getElem? (i := 1) rfl), fun _ => wr27 _ (List.mem_of_getElem? (i := 2) rfl), fun h => absurd h (by decide), fun h => absurd h (by decide), by decide +kernel⟩
set_option maxRecDepth 100000 in
theorem cq11_265 : am_CP 11 (265, 0, 1, mX5_reasonOf) := ⟨moX5_reasonOf, fun _ => wr39 _ (List.mem_of_getElem? (i := 1) rfl), fun h => absurd h (by decide), fun _ => wr35 _ (List.mem_of_getElem? (i := 18) rfl), fun _ => wr35 _ (List.mem_of_getElem? (i := 19) rfl), fun h => absurd h (by decide), fun h => absurd h (by decide), by decide +kernel⟩
set_option maxRecDepth 100000 in
theorem cq11_268 : am_CP 11 (268, 0, 1, mX11_acceptedTotal) := ⟨moX11_acceptedTotal, fun _ => wr39 _ (List.mem_of_getElem? (i := 10) rfl), fun h => absurd h (by decide), fun _ => wr39 _ (List.mem_of_getElem? (i := 11) rfl), fun _ => wr39 _ (List.mem_of_getElem? (i := 12) rfl), fun h => absurd h (by decide), fun h => absurd h (by decide), by decide +kernel⟩
set_option maxRecDepth 100000 in
theorem cq11_271 : am_CP 11 (271, 0, 1, mX6_reckon) := ⟨moX6_reckon, fun _ => wr40 _ (List.mem_of_getElem? (i := 6) rfl), fun h => absurd h (by decide), fun _ => wr40 _ (List.mem_of_getElem? (i := 7) rfl), fun _ => wr40 _ (List.mem_of_getElem? (i := 8) rfl), fun h => absurd h (by decide), fun h => absurd h (by decide), by decide +kernel⟩
set_option maxRecDepth 100000 in
theorem cq11_274 : am_CP 11 (274, 0, 2, mX6_sum) := ⟨moX6_sum, fun _ => wr41 _ (List.mem_of_getElem? (i := 7) rfl), fun h => absurd h (by decide), fun _ => wr41 _ (List.mem_of_getElem? (i := 8) rfl), fun _ => wr41 _ (List.mem_of_getElem? (i := 9) rfl), fun h => absurd h (by decide), fun h => absurd h (by decide), by decide +kernel⟩
set_option maxRecDepth 100000 in
theorem cq11_277 : am_CP 11 (277, 0, 0, mX6_size) := ⟨moX6_size, fun _ => wr43 _ (List.mem_of_getElem? (i := 11) rfl), fun h => absurd h (by decide), fun _ => wr43 _ (List.mem_of_getElem? (i := 12) rfl), fun _ => wr43 _ (List.mem_of_getElem? (i := 13) rfl), fun h => absurd h (by decide), fun h => absurd h (by decide), by decide +kernel⟩
set_option maxRecDepth 100000 in
theorem cq11_278 : am_CP 11 (278, 0, 0, mX6_rank) := ⟨moX6_rank, fun _ => wr43 _ (List.mem_of_getElem? (i := 15) rfl), fun h => absurd h (by decide), fun _ => wr43 _ (List.mem_of_getElem? (i := 16) rfl), fun _ => wr43 _ (List.mem_of_getElem? (i := 17) rfl), fun h => absurd h (by decide), fun h => absurd h (by decide), by decide +kernel⟩
set_option maxRecDepth 100000 in
theorem cq11_281 : am_CP 11 (281, 0, 1, mX6_at) := ⟨moX6_at, fun _ => wr44 _ (List.mem_of_getElem? (i := 2) rfl), fun h => absurd h (by decide), fun _ => wr41 _ (List.mem_of_getElem? (i := 0) rfl), fun _ => wr41 _ (List.mem_of_getElem? (i := 1) rfl), fun h => absurd h (by decide), fun h => absurd h (by decide), by decide +kernel⟩
set_option maxRecDepth 100000 in
theorem cq11_298 : am_CP 11 (298, 0, 1, mX11_passByKeyColumns) := ⟨moX11_passByKeyColumns, fun _ => wr45 _ (List.mem_of_getElem? (i := 5) rfl), fun h => absurd h (by decide), fun _ => wr45 _ (List.mem_of_getElem? (i := 6) rfl), fun _ => wr45 _ (List.mem_of_getElem? (i := 7) rfl), fun h => absurd h (by decide), fun h => absurd h (by decide), by decide +kernel⟩
set_option maxRecDepth 100000 in
theorem cq11_301 : am_CP 11 (301, 0, 2, mX7_isInKeyOrder) := ⟨moX7_isInKeyOrder, fun _ => wr36 _ (List.mem_of_getElem? (i := 2) rfl), fun h => absurd h (by decide), fun _ => wr36 _ (List.mem_of_getElem? (i := 3) rfl), fun _ => wr36 _ (List.mem_of_getElem? (i := 4) rfl), fun h => absurd h (by decide), fun h => absurd h (by decide), by decide +kernel⟩
set_option maxRecDepth 100000 in
theorem cq11_305 : am_CP 11 (305, 0, 1, mX8_copyFrom) := ⟨moX8_copyFrom, fun _ => wr46 _ (List.mem_of_getElem? (i := 13) rfl), fun h => absurd h (by decide), fun _ => wr9 _ (List.mem_of_getElem? (i := 0) rfl), fun _ => wr9 _ (List.mem_of_getElem? (i := 1) rfl), fun h => absurd h (by decide), fun h => absurd h (by decide), by decide +kernel⟩
set_option maxRecDepth 100000 in
theorem cq11_310 : am_CP 11 (310, 0, 3, mX11_refusal) := ⟨moX11_refusal, fun _ => wr25 _ (List.mem_of_getElem? (i := 7) rfl), fun h => absurd h (by decide), fun _ => wr25 _ (List.mem_of_getElem? (i := 8) rfl), fun _ => wr25 _ (List.mem_of_getElem? (i := 9) rfl), fun h => absurd h (by decide), fun h => absurd h (by decide), by decide +kernel⟩
set_option maxRecDepth 100000 in
theorem cq11_314 : am_CP 11 (314, 0, 0, mX10_key) := ⟨moX10_key, fun _ => wr26 _ (List.mem_of_getElem? (i := 8) rfl), fun h => absurd h (by decide), fun _ => wr26 _ (List.mem_of_getElem? (i := 9) rfl), fun _ => wr26 _ (List.mem_of_getElem? (i := 10) rfl), fun h => absurd h (by decide), fun h => absurd h (by decide), by decide +kernel⟩
set_option maxRecDepth 100000 in
theorem cq11_318 : am_CP 11 (318, 0, 2, mX11_printJudged) := ⟨moX11_printJudged, fun _ => wr26 _ (List.mem_of_getElem? (i := 16) rfl), fun h => absurd h (by decide), fun _ => wr26 _ (List.mem_of_getElem? (i := 17) rfl), fun _ => wr26 _ (List.mem_of_getElem? (i := 18) rfl), fun h => absurd h (by decide), fun h => absurd h (by decide), by decide +kernel⟩
set_option maxRecDepth 100000 in
theorem cq11_321 : am_CP 11 (321, 0, 2, mX5_judge) := ⟨moX5_judge, fun _ => wr26 _ (List.mem_of_getElem? (i := 20) rfl), fun h => absurd h (by decide), fun _ => wr26 _ (List.mem_of_getElem? (i := 21) rfl), fun _ => wr26 _ (List.mem_of_getElem? (i := 22) rfl), fun h => absurd h (by decide), fun h => absurd h (by decide), by decide +kernel⟩
set_option maxRecDepth 100000 in
theorem cq11_324 : am_CP 11 (324, 0, 3, mX4_accept) := ⟨moX4_accept, fun _ => wr27 _ (List.mem_of_getElem? (i := 4) rfl), fun h => absurd h (by decide), fun _ => wr27 _ (List.mem_of_getElem? (i := 5) rfl), fun _ => wr27 _ (List.mem_of_getElem? (i := 6) rfl), fun h => absurd h (by decide), fun h => absurd h (by decide), by decide +kernel⟩
set_option maxRecDepth 100000 in
theorem cq11_328 : am_CP 11 (328, 0, 1, mX0_readFrom) := ⟨moX0_readFrom, fun _ => wr25 _ (List.mem_of_getElem? (i := 16) rfl), fun h => absurd h (by decide), fun _ => wr25 _ (List.mem_of_getElem? (i := 17) rfl), fun _ => wr25 _ (List.mem_of_getElem? (i := 18) rfl), fun h => absurd h (by decide), fun h => absurd h (by decide), by decide +kernel⟩
set_option maxRecDepth 100000 in
theorem cq11_332 : am_CP 11 (332, 0, 2, mX10_fillFrom) := ⟨moX10_fillFrom, fun _ => wr25 _ (List.mem_of_getElem? (i := 22) rfl), fun h => absurd h (by decide), fun _ => wr25 _ (List.mem_of_getElem? (i := 23) rfl), fun _ => wr26 _ (List.mem_of_getElem? (i := 0) rfl), fun h => absurd h (by decide), fun h => absurd h (by decide), by decide +kernel⟩
set_option maxRecDepth 100000 in
theorem cq11_339 : am_CP 11 (339, 0, 0, mX5_sumOfWorkers) := ⟨moX5_sumOfWorkers, fun _ => wr39 _ (List.mem_of_getElem? (i := 14) rfl), fun h => absurd h (by decide), fun _ => wr39 _ (List.mem_of_getElem? (i := 15) rfl), fun _ => wr39 _ (List.mem_of_getElem? (i := 16) rfl), fun h => absurd h (by decide), fun h => absurd h (by decide), by decide +kernel⟩
set_option maxRecDepth 100000 in
theorem cq12_57 : am_CP 12 (57, 0, 3, mX12_layField) := ⟨moX12_layField, fun _ => wr7 _ (List.mem_of_getElem? (i := 11) rfl), fun h => absurd h (by decide), fun _ => wr7 _ (List.mem_of_getElem? (i := 12) rfl), fun _ => wr7 _ (List.mem_of_getElem? (i := 13) rfl), fun h => absurd h (by decide), fun h => absurd h (by decide), by decide +kernel⟩
set_option maxRecDepth 100000 in
theorem cq12_64 : am_CP 12 (64, 1, 3, mX12_isIn) := ⟨moX12_isIn, fun _ => wr11 _ (List.mem_of_getElem? (i := 2) rfl), fun h => absurd h (by decide), fun h => absurd h (by decide), fun h => absurd h (by decide), fun _ => wr11 _ (List.mem_of_getElem? (i := 3) rfl), fun h => absurd h (by decide), by decide +kernel⟩
set_option maxRecDepth 100000 in
theorem cq12_68 : am_CP 12 (68, 0, 2, mX12_of) := ⟨moX12_of, fun _ => wr30 _ (List.mem_of_getElem? (i := 1) rfl), fun h => absurd h (by decide), fun _ => wr30 _ (List.mem_of_getElem? (i := 2) rfl), fun _ => wr30 _ (List.mem_of_getElem? (i := 3) rfl), fun h => absurd h (by decide), fun h => absurd h (by decide), by decide +kernel⟩
set_option maxRecDepth 100000 in
theorem cq12_72 : am_CP 12 (72, 0, 1, mX12_look) := ⟨moX12_look, fun _ => wr30 _ (List.mem_of_getElem? (i := 9) rfl), fun h => absurd h (by decide), fun _ => wr30 _ (List.mem_of_getElem? (i := 10) rfl), fun _ => wr30 _ (List.mem_of_getElem? (i := 11) rfl), fun h => absurd h (by decide), fun h => absurd h (by decide), by decide +kernel⟩
set_option maxRecDepth 100000 in
theorem cq12_76 : am_CP 12 (76, 0, 1, mX12_width) := ⟨moX12_width, fun _ => wr18 _ (List.mem_of_getElem? (i := 6) rfl), fun h => absurd h (by decide), fun _ => wr18 _ (List.mem_of_getElem? (i := 7) rfl), fun _ => wr18 _ (List.mem_of_getElem? (i := 8) rfl), fun h => absurd h (by decide), fun h => absurd h (by decide), by decide +kernel⟩
set_option maxRecDepth 100000 in
theorem cq12_80 : am_CP 12 (80, 0, 1, mX12_first) := ⟨moX12_first, fun _ => wr11 _ (List.mem_of_getElem? (i := 10) rfl), fun h => absurd h (by decide), fun _ => wr11 _ (List.mem_of_getElem? (i := 11) rfl), fun _ => wr11 _ (List.mem_of_getElem? (i := 12) rfl), fun h => absurd h (by decide), fun h => absurd h (by decide), by decide +kernel⟩
set_option maxRecDepth 100000 in
theorem cq12_83 : am_CP 12 (83, 0, 1, mX12_read) := ⟨moX12_read, fun _ => wr30 _ (List.mem_of_getElem? (i := 5) rfl), fun h => absurd h (by decide), fun _ => wr30 _ (List.mem_of_getElem? (i := 6) rfl), fun _ => wr30 _ (List.mem_of_getElem? (i := 7) rfl), fun h => absurd h (by decide), fun h => absurd h (by decide), by decide +kernel⟩
set_option maxRecDepth 100000 in
theorem cq12_86 : am_CP 12 (86, 0, 1, mX12_valueOf) := ⟨moX12_valueOf, fun _ => wr30 _ (List.mem_of_getElem? (i := 13) rfl), fun h => absurd h (by decide), fun _ => wr30 _ (List.mem_of_getElem? (i := 14) rfl), fun _ => wr30 _ (List.mem_of_getElem? (i := 15) rfl), fun h => absurd h (by decide), fun h => absurd h (by decide), by decide +kernel⟩
set_option maxRecDepth 100000 in
theorem cq12_89 : am_CP 12 (89, 0, 0, mX12_due) := ⟨moX12_due, fun _ => wr18 _ (List.mem_of_getElem? (i := 18) rfl), fun h => absurd h (by decide), fun _ => wr18 _ (List.mem_of_getElem? (i := 19) rfl), fun _ => wr18 _ (List.mem_of_getElem? (i := 20) rfl), fun h => absurd h (by decide), fun h => absurd h (by decide), by decide +kernel⟩
set_option maxRecDepth 100000 in
theorem cq12_103 : am_CP 12 (103, 0, 2, mX12_fails) := ⟨moX12_fails, fun _ => wr17 _ (List.mem_of_getElem? (i := 23) rfl), fun h => absurd h (by decide), fun _ => wr18 _ (List.mem_of_getElem? (i := 0) rfl), fun _ => wr18 _ (List.mem_of_getElem? (i := 1) rfl), fun h => absurd h (by decide), fun h => absurd h (by decide), by decide +kernel⟩
set_option maxRecDepth 100000 in
theorem cq12_110 : am_CP 12 (110, 1, 1, mX12_fieldOf) := ⟨moX12_fieldOf, fun _ => wr18 _ (List.mem_of_getElem? (i := 3) rfl), fun h => absurd h (by decide), fun h => absurd h (by decide), fun h => absurd h (by decide), fun _ => wr18 _ (List.mem_of_getElem? (i := 4) rfl), fun h => absurd h (by decide), by decide +kernel⟩
set_option maxRecDepth 100000 in
theorem cq12_113 : am_CP 12 (113, 1, 1, mX12_isField) := ⟨moX12_isField, fun _ => wr10 _ (List.mem_of_getElem? (i := 23) rfl), fun h => absurd h (by decide), fun h => absurd h (by decide), fun h => absurd h (by decide), fun _ => wr11 _ (List.mem_of_getElem? (i := 0) rfl), fun h => absurd h (by decide), by decide +kernel⟩
set_option maxRecDepth 100000 in
theorem cq12_118 : am_CP 12 (118, 0, 0, mX12_remember) := ⟨moX12_remember, fun _ => wr11 _ (List.mem_of_getElem? (i := 5) rfl), fun h => absurd h (by decide), fun _ => wr11 _ (List.mem_of_getElem? (i := 6) rfl), fun _ => wr11 _ (List.mem_of_getElem? (i := 7) rfl), fun h => absurd h (by decide), fun h => absurd h (by decide), by decide +kernel⟩
set_option maxRecDepth 100000 in
theorem cq12_121 : am_CP 12 (121, 1, 2, mX12_isOf) := ⟨moX12_isOf, fun _ => wr12 _ (List.mem_of_getElem? (i := 7) rfl), fun h => absurd h (by decide), fun h => absurd h (by decide), fun h => absurd h (by decide), fun _ => wr12 _ (List.mem_of_getElem? (i := 8) rfl), fun h => absurd h (by decide), by decide +kernel⟩
set_option maxRecDepth 100000 in
theorem cq12_125 : am_CP 12 (125, 0, 2, mX12_put) := ⟨moX12_put, fun _ => wr12 _ (List.mem_of_getElem? (i := 10) rfl), fun h => absurd h (by decide), fun _ => wr12 _ (List.mem_of_getElem? (i := 11) rfl), fun _ => wr12 _ (List.mem_of_getElem? (i := 12) rfl), fun h => absurd h (by decide), fun h => absurd h (by decide), by decide +kernel⟩
set_option maxRecDepth 100000 in
theorem cq12_129 : am_CP 12 (129, 0, 0, mX12_readText) := ⟨moX12_readText, fun _ => wr17 _ (List.mem_of_getElem? (i := 18) rfl), fun h => absurd h (by decide), fun _ => wr17 _ (List.mem_of_getElem? (i := 19) rfl), fun _ => wr17 _ (List.mem_of_getElem? (i := 20) rfl), fun h => absurd h (by decide), fun h => absurd h (by decide), by decide +kernel⟩
set_option maxRecDepth 100000 in
theorem cq12_134 : am_CP 12 (134, 0, 2, mX12_copyCard) := ⟨moX12_copyCard, fun _ => wr18 _ (List.mem_of_getElem? (i := 10) rfl), fun h => absurd h (by decide), fun _ => wr18 _ (List.mem_of_getElem? (i := 11) rfl), fun _ => wr18 _ (List.mem_of_getElem? (i := 12) rfl), fun h => absurd h (by decide), fun h => absurd h (by decide), by decide +kernel⟩
set_option maxRecDepth 100000 in
theorem cq12_137 : am_CP 12 (137, 0, 0, mX12_punchSeen) := ⟨moX12_punchSeen, fun _ => wr18 _ (List.mem_of_getElem? (i := 14) rfl), fun h => absurd h (by decide), fun _ => wr18 _ (List.mem_of_getElem? (i := 15) rfl), fun _ => wr18 _ (List.mem_of_getElem? (i := 16) rfl), fun h => absurd h (by decide), fun h => absurd h (by decide), by decide +kernel⟩
set_option maxRecDepth 100000 in
theorem cq12_140 : am_CP 12 (140, 0, 1, mX12_isCard) := ⟨moX12_isCard, fun _ => wr19 _ (List.mem_of_getElem? (i := 15) rfl), fun h => absurd h (by decide), fun _ => wr19 _ (List.mem_of_getElem? (i := 16) rfl), fun _ => wr19 _ (List.mem_of_getElem? (i := 17) rfl), fun h => absurd h (by decide), fun h => absurd h (by decide), by decide +kernel⟩
set_option maxRecDepth 100000 in
theorem cq12_143 : am_CP 12 (143, 0, 0, mX12_holdDeck) := ⟨moX12_holdDeck, fun _ => wr20 _ (List.mem_of_getElem? (i := 8) rfl), fun h => absurd h (by decide), fun _ => wr20 _ (List.mem_of_getElem? (i := 9) rfl), fun _ => wr20 _ (List.mem_of_getElem? (i := 10) rfl), fun h => absurd h (by decide), fun h => absurd h (by decide), by decide +kernel⟩
set_option maxRecDepth 100000 in
theorem cq12_146 : am_CP 12 (146, 0, 2, mX12_fromHeld) := ⟨moX12_fromHeld, fun _ => wr20 _ (List.mem_of_getElem? (i := 12) rfl), fun h => absurd h (by decide), fun _ => wr20 _ (List.mem_of_getElem? (i := 13) rfl), fun _ => wr20 _ (List.mem_of_getElem? (i := 14) rfl), fun h => absurd h (by decide), fun h => absurd h (by decide), by decide +kernel⟩
set_option maxRecDepth 100000 in
theorem cq12_149 : am_CP 12 (149, 1, 1, mX12_isColumn) := ⟨moX12_isColumn, fun _ => wr21 _ (List.mem_of_getElem? (i := 2) rfl), fun h => absurd h (by decide), fun h => absurd h (by decide), fun h => absurd h (by decide), fun _ => wr21 _ (List.mem_of_getElem? (i := 3) rfl), fun h => absurd h (by decide), by decide +kernel⟩
set_option maxRecDepth 100000 in
theorem cq12_152 : am_CP 12 (152, 0, 0, mX12_beginPasses) := ⟨moX12_beginPasses, fun _ => wr23 _ (List.mem_of_getElem? (i := 3) rfl), fun h => absurd h (by decide), fun _ => wr23 _ (List.mem_of_getElem? (i := 4) rfl), fun _ => wr23 _ (List.mem_of_getElem? (i := 5) rfl), fun h => absurd h (by decide), fun h => absurd h (by decide), by decide +kernel⟩
set_option maxRecDepth 100000 in
theorem cq12_155 : am_CP 12 (155, 0, 1, mX12_passBy) := ⟨moX12_passBy, fun _ => wr23 _ (List.mem_of_getElem? (i := 7) rfl), fun h => absurd h (by decide), fun _ => wr23 _ (List.mem_of_getElem? (i := 8) rfl), fun _ => wr23 _ (List.mem_of_getElem? (i := 9) rfl), fun h => absurd h (by decide), fun h => absurd h (by decide), by decide +kernel⟩
set_option maxRecDepth 100000 in
theorem cq12_158 : am_CP 12 (158, 0, 0, mX12_movedCards) := ⟨moX12_movedCards, fun _ => wr23 _ (List.mem_of_getElem? (i := 11) rfl), fun h => absurd h (by decide), fun _ => wr23 _ (List.mem_of_getElem? (i := 12) rfl), fun _ => wr23 _ (List.mem_of_getElem? (i := 13) rfl), fun h => absurd h (by decide), fun h => absurd h (by decide), by decide +kernel⟩
set_option maxRecDepth 100000 in
theorem cq12_163 : am_CP 12 (163, 0, 1, mX12_ownReason) := ⟨moX12_ownReason, fun _ => wr29 _ (List.mem_of_getElem? (i := 21) rfl), fun h => absurd h (by decide), fun _ => wr29 _ (List.mem_of_getElem? (i := 22) rfl), fun _ => wr29 _ (List.mem_of_getElem? (i := 23) rfl), fun h => absurd h (by decide), fun h => absurd h (by decide), by decide +kernel⟩
set_option maxRecDepth 100000 in
theorem cq12_166 : am_CP 12 (166, 1, 3, mX12_key) := ⟨moX12_key, fun _ => wr30 _ (List.mem_of_getElem? (i := 17) rfl), fun h => absurd h (by decide), fun h => absurd h (by decide), fun h => absurd h (by decide), fun _ => wr30 _ (List.mem_of_getElem? (i := 18) rfl), fun h => absurd h (by decide), by decide +kernel⟩
set_option maxRecDepth 100000 in
theorem cq12_170 : am_CP 12 (170, 0, 2, mX12_accepted) := ⟨moX12_accepted, fun _ => wr31 _ (List.mem_of_getElem? (i := 2) rfl), fun h => absurd h (by decide), fun _ => wr31 _ (List.mem_of_getElem? (i := 3) rfl), fun _ => wr31 _ (List.mem_of_getElem? (i := 4) rfl), fun h => absurd h (by decide), fun h => absurd h (by decide), by decide +kernel⟩
set_option maxRecDepth 100000 in
theorem cq12_175 : am_CP 12 (175, 1, 3, mX12_overtime) := ⟨moX12_overtime, fun _ => wr31 _ (List.mem_of_getElem? (i := 14) rfl), fun h => absurd h (by decide), fun h => absurd h (by decide), fun h => absurd h (by decide), fun _ => wr31 _ (List.mem_of_getElem? (i := 15) rfl), fun h => absurd h (by decide), by decide +kernel⟩
set_option maxRecDepth 100000 in
theorem cq12_179 : am_CP 12 (179, 0, 2, mX12_printLine) := ⟨moX12_printLine, fun _ => wr31 _ (List.mem_of_getElem? (i := 18) rfl), fun h => absurd h (by decide), fun _ => wr31 _ (List.mem_of_getElem? (i := 19) rfl), fun _ => wr31 _ (List.mem_of_getElem? (i := 20) rfl), fun h => absurd h (by decide), fun h => absurd h (by decide), by decide +kernel⟩
set_option maxRecDepth 100000 in
theorem cq12_182 : am_CP 12 (182, 0, 5, mX12_fill) := ⟨moX12_fill, fun _ => wr31 _ (List.mem_of_getElem? (i := 22) rfl), fun h => absurd h (by decide), fun _ => wr31 _ (List.mem_of_getElem? (i := 23) rfl), fun _ => wr32 _ (List.mem_of_getElem? (i := 0) rfl), fun h => absurd h (by decide), fun h => absurd h (by decide), by decide +kernel⟩
set_option maxRecDepth 100000 in
theorem cq12_186 : am_CP 12 (186, 0, 2, mX12_breakLevel) := ⟨moX12_breakLevel, fun _ => wr31 _ (List.mem_of_getElem? (i := 10) rfl), fun h => absurd h (by decide), fun _ => wr31 _ (List.mem_of_getElem? (i := 11) rfl), fun _ => wr31 _ (List.mem_of_getElem? (i := 12) rfl), fun h => absurd h (by decide), fun h => absurd h (by decide), by decide +kernel⟩
set_option maxRecDepth 100000 in
theorem cq12_189 : am_CP 12 (189, 0, 2, mX12_breaks) := ⟨moX12_breaks, fun _ => wr31 _ (List.mem_of_getElem? (i := 6) rfl), fun h => absurd h (by decide), fun _ => wr31 _ (List.mem_of_getElem? (i := 7) rfl), fun _ => wr31 _ (List.mem_of_getElem? (i := 8) rfl), fun h => absurd h (by decide), fun h => absurd h (by decide), by decide +kernel⟩
set_option maxRecDepth 100000 in
theorem cq12_192 : am_CP 12 (192, 0, 1, mX12_wageOf) := ⟨moX12_wageOf, fun _ => wr32 _ (List.mem_of_getElem? (i := 2) rfl), fun h => absurd h (by decide), fun _ => wr32 _ (List.mem_of_getElem? (i := 3) rfl), fun _ => wr32 _ (List.mem_of_getElem? (i := 4) rfl), fun h => absurd h (by decide), fun h => absurd h (by decide), by decide +kernel⟩
set_option maxRecDepth 100000 in
theorem cq12_195 : am_CP 12 (195, 0, 0, mX12_runCards) := ⟨moX12_runCards, fun _ => wr29 _ (List.mem_of_getElem? (i := 16) rfl), fun h => absurd h (by decide), fun _ => wr29 _ (List.mem_of_getElem? (i := 17) rfl), fun _ => wr29 _ (List.mem_of_getElem? (i := 18) rfl), fun h => absurd h (by decide), fun h => absurd h (by decide), by decide +kernel⟩
set_option maxRecDepth 100000 in
theorem cq12_198 : am_CP 12 (198, 0, 0, mX12_printReport) := ⟨moX12_printReport, fun _ => wr30 _ (List.mem_of_getElem? (i := 22) rfl), fun h => absurd h (by decide), fun _ => wr30 _ (List.mem_of_getElem? (i := 23) rfl), fun _ => wr31 _ (List.mem_of_getElem? (i := 0) rfl), fun h => absurd h (by decide), fun h => absurd h (by decide), by decide +kernel⟩
set_option maxRecDepth 100000 in
theorem cq12_201 : am_CP 12 (201, 0, 0, mX12_refused) := ⟨moX12_refused, fun _ => wr36 _ (List.mem_of_getElem? (i := 18) rfl), fun h => absurd h (by decide), fun _ => wr36 _ (List.mem_of_getElem? (i := 19) rfl), fun _ => wr36 _ (List.mem_of_getElem? (i := 20) rfl), fun h => absurd h (by decide), fun h => absurd h (by decide), by decide +kernel⟩
set_option maxRecDepth 100000 in
theorem cq12_204 : am_CP 12 (204, 0, 0, mX12_isOrdered) := ⟨moX12_isOrdered, fun _ => wr36 _ (List.mem_of_getElem? (i := 22) rfl), fun h => absurd h (by decide), fun _ => wr36 _ (List.mem_of_getElem? (i := 23) rfl), fun _ => wr37 _ (List.mem_of_getElem? (i := 0) rfl), fun h => absurd h (by decide), fun h => absurd h (by decide), by decide +kernel⟩
set_option maxRecDepth 100000 in
theorem cq12_208 : am_CP 12 (208, 0, 2, mX12_isAlike) := ⟨moX12_isAlike, fun _ => wr42 _ (List.mem_of_getElem? (i := 7) rfl), fun h => absurd h (by decide), fun _ => wr42 _ (List.mem_of_getElem? (i := 8) rfl), fun _ => wr42 _ (List.mem_of_getElem? (i := 9) rfl), fun h => absurd h (by decide), fun h => absurd h (by decide), by decide +kernel⟩
set_option maxRecDepth 100000 in
theorem cq12_211 : am_CP 12 (211, 0, 1, mX12_isLast) := ⟨moX12_isLast, fun _ => wr42 _ (List.mem_of_getElem? (i := 3) rfl), fun h => absurd h (by decide), fun _ => wr42 _ (List.mem_of_getElem? (i := 4) rfl), fun _ => wr42 _ (List.mem_of_getElem? (i := 5) rfl), fun h => absurd h (by decide), fun h => absurd h (by decide), by decide +kernel⟩
set_option maxRecDepth 100000 in
theorem cq12_214 : am_CP 12 (214, 0, 2, mX12_ofKey) := ⟨moX12_ofKey, fun _ => wr42 _ (List.mem_of_getElem? (i := 11) rfl), fun h => absurd h (by decide), fun _ => wr42 _ (List.mem_of_getElem? (i := 12) rfl), fun _ => wr42 _ (List.mem_of_getElem? (i := 13) rfl), fun h => absurd h (by decide), fun h => absurd h (by decide), by decide +kernel⟩
set_option maxRecDepth 100000 in
theorem cq12_217 : am_CP 12 (217, 0, 2, mX12_inSecondWay) := ⟨moX12_inSecondWay, fun _ => wr41 _ (List.mem_of_getElem? (i := 23) rfl), fun h => absurd h (by decide), fun _ => wr42 _ (List.mem_of_getElem? (i := 0) rfl), fun _ => wr42 _ (List.mem_of_getElem? (i := 1) rfl), fun h => absurd h (by decide), fun h => absurd h (by decide), by decide +kernel⟩
set_option maxRecDepth 100000 in
theorem cq12_220 : am_CP 12 (220, 0, 1, mX12_ofAll) := ⟨moX12_ofAll, fun _ => wr42 _ (List.mem_of_getElem? (i := 23) rfl), fun h => absurd h (by decide), fun _ => wr43 _ (List.mem_of_getElem? (i := 0) rfl), fun _ => wr43 _ (List.mem_of_getElem? (i := 1) rfl), fun h => absurd h (by decide), fun h => absurd h (by decide), by decide +kernel⟩
set_option maxRecDepth 100000 in
theorem cq12_223 : am_CP 12 (223, 0, 1, mX12_keyOf) := ⟨moX12_keyOf, fun _ => wr44 _ (List.mem_of_getElem? (i := 11) rfl), fun h => absurd h (by decide), fun _ => wr44 _ (List.mem_of_getElem? (i := 12) rfl), fun _ => wr44 _ (List.mem_of_getElem? (i := 13) rfl), fun h => absurd h (by decide), fun h => absurd h (by decide), by decide +kernel⟩
set_option maxRecDepth 100000 in
theorem cq12_227 : am_CP 12 (227, 0, 1, mX12_rank) := ⟨moX12_rank, fun _ => wr44 _ (List.mem_of_getElem? (i := 7) rfl), fun h => absurd h (by decide), fun _ => wr44 _ (List.mem_of_getElem? (i := 8) rfl), fun _ => wr44 _ (List.mem_of_getElem? (i := 9) rfl), fun h => absurd h (by decide), fun h => absurd h (by decide), by decide +kernel⟩
set_option maxRecDepth 100000 in
theorem cq12_232 : am_CP 12 (232, 0, 0, mX12_putAside) := ⟨moX12_putAside, fun _ => wr45 _ (List.mem_of_getElem? (i := 13) rfl), fun h => absurd h (by decide), fun _ => wr45 _ (List.mem_of_getElem? (i := 14) rfl), fun _ => wr45 _ (List.mem_of_getElem? (i := 15) rfl), fun h => absurd h (by decide), fun h => absurd h (by decide), by decide +kernel⟩
set_option maxRecDepth 100000 in
theorem cq12_235 : am_CP 12 (235, 0, 1, mX12_makePasses) := ⟨moX12_makePasses, fun _ => wr45 _ (List.mem_of_getElem? (i := 17) rfl), fun h => absurd h (by decide), fun _ => wr45 _ (List.mem_of_getElem? (i := 18) rfl), fun _ => wr45 _ (List.mem_of_getElem? (i := 19) rfl), fun h => absurd h (by decide), fun h => absurd h (by decide), by decide +kernel⟩
set_option maxRecDepth 100000 in
theorem cq12_238 : am_CP 12 (238, 0, 0, mX12_putBack) := ⟨moX12_putBack, fun _ => wr45 _ (List.mem_of_getElem? (i := 21) rfl), fun h => absurd h (by decide), fun _ => wr45 _ (List.mem_of_getElem? (i := 22) rfl), fun _ => wr45 _ (List.mem_of_getElem? (i := 23) rfl), fun h => absurd h (by decide), fun h => absurd h (by decide), by decide +kernel⟩
set_option maxRecDepth 100000 in
theorem cq12_241 : am_CP 12 (241, 1, 1, mX12_isImage) := ⟨moX12_isImage, fun _ => wr46 _ (List.mem_of_getElem? (i := 19) rfl), fun h => absurd h (by decide), fun h => absurd h (by decide), fun h => absurd h (by decide), fun _ => wr46 _ (List.mem_of_getElem? (i := 20) rfl), fun h => absurd h (by decide), by decide +kernel⟩
set_option maxRecDepth 100000 in
theorem cq14_9 : am_CP 14 (9, 2, 0, mX11_init) := ⟨moX11_init, fun _ => wr1 _ (List.mem_of_getElem? (i := 6) rfl), fun h => absurd h (by decide), fun _ => wr1 _ (List.mem_of_getElem? (i := 7) rfl), fun h => absurd h (by decide), fun h => absurd h (by decide), fun _ => ⟨rfl, rfl⟩, by decide +kernel⟩
set_option maxRecDepth 100000 in
theorem cq14_12 : am_CP 14 (12, 2, 0, mX12_init) := ⟨moX12_init, fun _ => wr6 _ (List.mem_of_getElem? (i := 15) rfl), fun h => absurd h (by decide), fun _ => wr6 _ (List.mem_of_getElem? (i := 16) rfl), fun h => absurd h (by decide), fun h => absurd h (by decide), fun _ => ⟨rfl, rfl⟩, by decide +kernel⟩
set_option maxRecDepth 100000 in
theorem cq14_13 : am_CP 14 (13, 0, 3, mX11_lay) := ⟨moX11_lay, fun _ => wr7 _ (List.mem_of_getElem? (i := 15) rfl), fun h => absurd h (by decide), fun _ => wr7 _ (List.mem_of_getElem? (i := 16) rfl), fun _ => wr7 _ (List.mem_of_getElem? (i := 17) rfl), fun h => absurd h (by decide), fun h => absurd h (by decide), by decide +kernel⟩
set_option maxRecDepth 100000 in
theorem cq14_17 : am_CP 14 (17, 0, 3, mX12_lay) := ⟨moX12_lay, fun _ => wr10 _ (List.mem_of_getElem? (i := 18) rfl), fun h => absurd h (by decide), fun _ => wr10 _ (List.mem_of_getElem? (i := 19) rfl), fun _ => wr10 _ (List.mem_of_getElem? (i := 20) rfl), fun h => absurd h (by decide), fun h => absurd h (by decide), by decide +kernel⟩
set_option maxRecDepth 100000 in
theorem cq14_18 : am_CP 14 (18, 0, 2, mX11_set) := ⟨moX11_set, fun _ => wr11 _ (List.mem_of_getElem? (i := 14) rfl), fun h => absurd h (by decide), fun _ => wr11 _ (List.mem_of_getElem? (i := 15) rfl), fun _ => wr11 _ (List.mem_of_getElem? (i := 16) rfl), fun h => absurd h (by decide), fun h => absurd h (by decide), by decide +kernel⟩
set_option maxRecDepth 100000 in
theorem cq14_22 : am_CP 14 (22, 0, 2, mX12_set) := ⟨moX12_set, fun _ => wr12 _ (List.mem_of_getElem? (i := 3) rfl), fun h => absurd h (by decide), fun _ => wr12 _ (List.mem_of_getElem? (i := 4) rfl), fun _ => wr12 _ (List.mem_of_getElem? (i := 5) rfl), fun h => absurd h (by decide), fun h => absurd h (by decide), by decide +kernel⟩
set_option maxRecDepth 100000 in
theorem cq14_23 : am_CP 14 (23, 0, 2, mX11_control) := ⟨moX11_control, fun _ => wr12 _ (List.mem_of_getElem? (i := 14) rfl), fun h => absurd h (by decide), fun _ => wr12 _ (List.mem_of_getElem? (i := 15) rfl), fun _ => wr12 _ (List.mem_of_getElem? (i := 16) rfl), fun h => absurd h (by decide), fun h => absurd h (by decide), by decide +kernel⟩
set_option maxRecDepth 100000 in
theorem cq14_26 : am_CP 14 (26, 0, 2, mX12_control) := ⟨moX12_control, fun _ => wr13 _ (List.mem_of_getElem? (i := 0) rfl), fun h => absurd h (by decide), fun _ => wr13 _ (List.mem_of_getElem? (i := 1) rfl), fun _ => wr13 _ (List.mem_of_getElem? (i := 2) rfl), fun h => absurd h (by decide), fun h => absurd h (by decide), by decide +kernel⟩
set_option maxRecDepth 100000 in
theorem cq14_27 : am_CP 14 (27, 0, 1, mX11_punch) := ⟨moX11_punch, fun _ => wr13 _ (List.mem_of_getElem? (i := 5) rfl), fun h => absurd h (by decide), fun _ => wr13 _ (List.mem_of_getElem? (i := 6) rfl), fun _ => wr13 _ (List.mem_of_getElem? (i := 7) rfl), fun h => absurd h (by decide), fun h => absurd h (by decide), by decide +kernel⟩
set_option maxRecDepth 100000 in
theorem cq14_31 : am_CP 14 (31, 0, 1, mX12_punch) := ⟨moX12_punch, fun _ => wr17 _ (List.mem_of_getElem? (i := 10) rfl), fun h => absurd h (by decide), fun _ => wr17 _ (List.mem_of_getElem? (i := 11) rfl), fun _ => wr17 _ (List.mem_of_getElem? (i := 12) rfl), fun h => absurd h (by decide), fun h => absurd h (by decide), by decide +kernel⟩
set_option maxRecDepth 100000 in
theorem cq14_32 : am_CP 14 (32, 0, 1, mX11_take) := ⟨moX11_take, fun _ => wr18 _ (List.mem_of_getElem? (i := 22) rfl), fun h => absurd h (by decide), fun _ => wr18 _ (List.mem_of_getElem? (i := 23) rfl), fun _ => wr19 _ (List.mem_of_getElem? (i := 0) rfl), fun h => absurd h (by decide), fun h => absurd h (by decide), by decide +kernel⟩
set_option maxRecDepth 100000 in
theorem cq14_35 : am_CP 14 (35, 0, 1, mX12_take) := ⟨moX12_take, fun _ => wr19 _ (List.mem_of_getElem? (i := 11) rfl), fun h => absurd h (by decide), fun _ => wr19 _ (List.mem_of_getElem? (i := 12) rfl), fun _ => wr19 _ (List.mem_of_getElem? (i := 13) rfl), fun h => absurd h (by decide), fun h => absurd h (by decide), by decide +kernel⟩
set_option maxRecDepth 100000 in
theorem cq14_36 : am_CP 14 (36, 0, 2, mX11_move) := ⟨moX11_move, fun _ => wr19 _ (List.mem_of_getElem? (i := 19) rfl), fun h => absurd h (by decide), fun _ => wr19 _ (List.mem_of_getElem? (i := 20) rfl), fun _ => wr19 _ (List.mem_of_getElem? (i := 21) rfl), fun h => absurd h (by decide), fun h => absurd h (by decide), by decide +kernel⟩
set_option maxRecDepth 100000 in
theorem cq14_39 : am_CP 14 (39, 0, 2, mX12_move) := ⟨moX12_move, fun _ => wr20 _ (List.mem_of_getElem? (i := 4) rfl), fun h => absurd h (by decide), fun _ => wr20 _ (List.mem_of_getElem? (i := 5) rfl), fun _ => wr20 _ (List.mem_of_getElem? (i := 6) rfl), fun h => absurd h (by decide), fun h => absurd h (by decide), by decide +kernel⟩
set_option maxRecDepth 100000 in
theorem cq14_40 : am_CP 14 (40, 0, 3, mX11_repunch) := ⟨moX11_repunch, fun _ => wr20 _ (List.mem_of_getElem? (i := 16) rfl), fun h => absurd h (by decide), fun _ => wr20 _ (List.mem_of_getElem? (i := 17) rfl), fun _ => wr20 _ (List.mem_of_getElem? (i := 18) rfl), fun h => absurd h (by decide), fun h => absurd h (by decide), by decide +kernel⟩
set_option maxRecDepth 100000 in
theorem cq14_43 : am_CP 14 (43, 0, 3, mX12_repunch) := ⟨moX12_repunch, fun _ => wr20 _ (List.mem_of_getElem? (i := 22) rfl), fun h => absurd h (by decide), fun _ => wr20 _ (List.mem_of_getElem? (i := 23) rfl), fun _ => wr21 _ (List.mem_of_getElem? (i := 0) rfl), fun h => absurd h (by decide), fun h => absurd h (by decide), by decide +kernel⟩
set_option maxRecDepth 100000 in
theorem cq14_44 : am_CP 14 (44, 0, 3, mX11_mark) := ⟨moX11_mark, fun _ => wr21 _ (List.mem_of_getElem? (i := 5) rfl), fun h => absurd h (by decide), fun _ => wr21 _ (List.mem_of_getElem? (i := 6) rfl), fun _ => wr21 _ (List.mem_of_getElem? (i := 7) rfl), fun h => absurd h (by decide), fun h => absurd h (by decide), by decide +kernel⟩
set_option maxRecDepth 100000 in
theorem cq14_47 : am_CP 14 (47, 0, 3, mX12_mark) := ⟨moX12_mark, fun _ => wr21 _ (List.mem_of_getElem? (i := 11) rfl), fun h => absurd h (by decide), fun _ => wr21 _ (List.mem_of_getElem? (i := 12) rfl), fun _ => wr21 _ (List.mem_of_getElem? (i := 13) rfl), fun h => absurd h (by decide), fun h => absurd h (by decide), by decide +kernel⟩
set_option maxRecDepth 100000 in
theorem cq14_48 : am_CP 14 (48, 0, 1, mX11_pass) := ⟨moX11_pass, fun _ => wr21 _ (List.mem_of_getElem? (i := 15) rfl), fun h => absurd h (by decide), fun _ => wr21 _ (List.mem_of_getElem? (i := 16) rfl), fun _ => wr21 _ (List.mem_of_getElem? (i := 17) rfl), fun h => absurd h (by decide), fun h => absurd h (by decide), by decide +kernel⟩
set_option maxRecDepth 100000 in
theorem cq14_51 : am_CP 14 (51, 0, 1, mX12_pass) := ⟨moX12_pass, fun _ => wr22 _ (List.mem_of_getElem? (i := 23) rfl), fun h => absurd h (by decide), fun _ => wr23 _ (List.mem_of_getElem? (i := 0) rfl), fun _ => wr23 _ (List.mem_of_getElem? (i := 1) rfl), fun h => absurd h (by decide), fun h => absurd h (by decide), by decide +kernel⟩
set_option maxRecDepth 100000 in
theorem cq14_52 : am_CP 14 (52, 0, 1, mX11_sort) := ⟨moX11_sort, fun _ => wr23 _ (List.mem_of_getElem? (i := 15) rfl), fun h => absurd h (by decide), fun _ => wr23 _ (List.mem_of_getElem? (i := 16) rfl), fun _ => wr23 _ (List.mem_of_getElem? (i := 17) rfl), fun h => absurd h (by decide), fun h => absurd h (by decide), by decide +kernel⟩
set_option maxRecDepth 100000 in
theorem cq14_55 : am_CP 14 (55, 0, 1, mX12_sort) := ⟨moX12_sort, fun _ => wr23 _ (List.mem_of_getElem? (i := 20) rfl), fun h => absurd h (by decide), fun _ => wr23 _ (List.mem_of_getElem? (i := 21) rfl), fun _ => wr23 _ (List.mem_of_getElem? (i := 22) rfl), fun h => absurd h (by decide), fun h => absurd h (by decide), by decide +kernel⟩
set_option maxRecDepth 100000 in
theorem cq14_56 : am_CP 14 (56, 0, 0, mX11_run) := ⟨moX11_run, fun _ => wr24 _ (List.mem_of_getElem? (i := 0) rfl), fun h => absurd h (by decide), fun _ => wr24 _ (List.mem_of_getElem? (i := 1) rfl), fun _ => wr24 _ (List.mem_of_getElem? (i := 2) rfl), fun h => absurd h (by decide), fun h => absurd h (by decide), by decide +kernel⟩
set_option maxRecDepth 100000 in
theorem cq14_60 : am_CP 14 (60, 0, 0, mX12_run) := ⟨moX12_run, fun _ => wr29 _ (List.mem_of_getElem? (i := 12) rfl), fun h => absurd h (by decide), fun _ => wr29 _ (List.mem_of_getElem? (i := 13) rfl), fun _ => wr29 _ (List.mem_of_getElem? (i := 14) rfl), fun h => absurd h (by decide), fun h => absurd h (by decide), by decide +kernel⟩
set_option maxRecDepth 100000 in
theorem cq14_61 : am_CP 14 (61, 0, 0, mX11_undo) := ⟨moX11_undo, fun _ => wr32 _ (List.mem_of_getElem? (i := 6) rfl), fun h => absurd h (by decide), fun _ => wr32 _ (List.mem_of_getElem? (i := 7) rfl), fun _ => wr32 _ (List.mem_of_getElem? (i := 8) rfl), fun h => absurd h (by decide), fun h => absurd h (by decide), by decide +kernel⟩
set_option maxRecDepth 100000 in
theorem cq14_64 : am_CP 14 (64, 0, 0, mX12_undo) := ⟨moX12_undo, fun _ => wr32 _ (List.mem_of_getElem? (i := 22) rfl), fun h => absurd h (by decide), fun _ => wr32 _ (List.mem_of_getElem? (i := 23) rfl), fun _ => wr33 _ (List.mem_of_getElem? (i := 0) rfl), fun h => absurd h (by decide), fun h => absurd h (by decide), by decide +kernel⟩
set_option maxRecDepth 100000 in
theorem cq14_65 : am_CP 14 (65, 0, 1, mX11_write) := ⟨moX11_write, fun _ => wr33 _ (List.mem_of_getElem? (i := 2) rfl), fun h => absurd h (by decide), fun _ => wr33 _ (List.mem_of_getElem? (i := 3) rfl), fun _ => wr33 _ (List.mem_of_getElem? (i := 4) rfl), fun h => absurd h (by decide), fun h => absurd h (by decide), by decide +kernel⟩
set_option maxRecDepth 100000 in
theorem cq14_68 : am_CP 14 (68, 0, 1, mX12_write) := ⟨moX12_write, fun _ => wr33 _ (List.mem_of_getElem? (i := 14) rfl), fun h => absurd h (by decide), fun _ => wr33 _ (List.mem_of_getElem? (i := 15) rfl), fun _ => wr33 _ (List.mem_of_getElem? (i := 16) rfl), fun h => absurd h (by decide), fun h => absurd h (by decide), by decide +kernel⟩
set_option maxRecDepth 100000 in
theorem cq14_69 : am_CP 14 (69, 0, 0, mX11_wipe) := ⟨moX11_wipe, fun _ => wr33 _ (List.mem_of_getElem? (i := 18) rfl), fun h => absurd h (by decide), fun _ => wr33 _ (List.mem_of_getElem? (i := 19) rfl), fun _ => wr33 _ (List.mem_of_getElem? (i := 20) rfl), fun h => absurd h (by decide), fun h => absurd h (by decide), by decide +kernel⟩
set_option maxRecDepth 100000 in
theorem cq14_72 : am_CP 14 (72, 0, 0, mX12_wipe) := ⟨moX12_wipe, fun _ => wr34 _ (List.mem_of_getElem? (i := 2) rfl), fun h => absurd h (by decide), fun _ => wr34 _ (List.mem_of_getElem? (i := 3) rfl), fun _ => wr34 _ (List.mem_of_getElem? (i := 4) rfl), fun h => absurd h (by decide), fun h => absurd h (by decide), by decide +kernel⟩
set_option maxRecDepth 100000 in
theorem cq14_73 : am_CP 14 (73, 0, 1, mX11_fault) := ⟨moX11_fault, fun _ => wr34 _ (List.mem_of_getElem? (i := 6) rfl), fun h => absurd h (by decide), fun _ => wr34 _ (List.mem_of_getElem? (i := 7) rfl), fun _ => wr34 _ (List.mem_of_getElem? (i := 8) rfl), fun h => absurd h (by decide), fun h => absurd h (by decide), by decide +kernel⟩
set_option maxRecDepth 100000 in
theorem cq14_76 : am_CP 14 (76, 0, 1, mX12_fault) := ⟨moX12_fault, fun _ => wr34 _ (List.mem_of_getElem? (i := 12) rfl), fun h => absurd h (by decide), fun _ => wr34 _ (List.mem_of_getElem? (i := 13) rfl), fun _ => wr34 _ (List.mem_of_getElem? (i := 14) rfl), fun h => absurd h (by decide), fun h => absurd h (by decide), by decide +kernel⟩
set_option maxRecDepth 100000 in
theorem cq14_77 : am_CP 14 (77, 0, 1, mX11_told) := ⟨moX11_told, fun _ => wr34 _ (List.mem_of_getElem? (i := 16) rfl), fun h => absurd h (by decide), fun _ => wr34 _ (List.mem_of_getElem? (i := 17) rfl), fun _ => wr34 _ (List.mem_of_getElem? (i := 18) rfl), fun h => absurd h (by decide), fun h => absurd h (by decide), by decide +kernel⟩
set_option maxRecDepth 100000 in
theorem cq14_80 : am_CP 14 (80, 0, 1, mX12_told) := ⟨moX12_told, fun _ => wr36 _ (List.mem_of_getElem? (i := 14) rfl), fun h => absurd h (by decide), fun _ => wr36 _ (List.mem_of_getElem? (i := 15) rfl), fun _ => wr36 _ (List.mem_of_getElem? (i := 16) rfl), fun h => absurd h (by decide), fun h => absurd h (by decide), by decide +kernel⟩
set_option maxRecDepth 100000 in
theorem cq14_81 : am_CP 14 (81, 0, 1, mX11_setting) := ⟨moX11_setting, fun _ => wr37 _ (List.mem_of_getElem? (i := 2) rfl), fun h => absurd h (by decide), fun _ => wr37 _ (List.mem_of_getElem? (i := 3) rfl), fun _ => wr37 _ (List.mem_of_getElem? (i := 4) rfl), fun h => absurd h (by decide), fun h => absurd h (by decide), by decide +kernel⟩
set_option maxRecDepth 100000 in
theorem cq14_84 : am_CP 14 (84, 0, 1, mX12_setting) := ⟨moX12_setting, fun _ => wr37 _ (List.mem_of_getElem? (i := 6) rfl), fun h => absurd h (by decide), fun _ => wr37 _ (List.mem_of_getElem? (i := 7) rfl), fun _ => wr37 _ (List.mem_of_getElem? (i := 8) rfl), fun h => absurd h (by decide), fun h => absurd h (by decide), by decide +kernel⟩
set_option maxRecDepth 100000 in
theorem cq14_85 : am_CP 14 (85, 0, 2, mX11_field) := ⟨moX11_field, fun _ => wr37 _ (List.mem_of_getElem? (i := 10) rfl), fun h => absurd h (by decide), fun _ => wr37 _ (List.mem_of_getElem? (i := 11) rfl), fun _ => wr37 _ (List.mem_of_getElem? (i := 12) rfl), fun h => absurd h (by decide), fun h => absurd h (by decide), by decide +kernel⟩
set_option maxRecDepth 100000 in
theorem cq14_88 : am_CP 14 (88, 0, 2, mX12_field) := ⟨moX12_field, fun _ => wr37 _ (List.mem_of_getElem? (i := 14) rfl), fun h => absurd h (by decide), fun _ => wr37 _ (List.mem_of_getElem? (i := 15) rfl), fun _ => wr37 _ (List.mem_of_getElem? (i := 16) rfl), fun h => absurd h (by decide), fun h => absurd h (by decide), by decide +kernel⟩
set_option maxRecDepth 100000 in
theorem cq14_89 : am_CP 14 (89, 0, 2, mX11_column) := ⟨moX11_column, fun _ => wr37 _ (List.mem_of_getElem? (i := 18) rfl), fun h => absurd h (by decide), fun _ => wr37 _ (List.mem_of_getElem? (i := 19) rfl), fun _ => wr37 _ (List.mem_of_getElem? (i := 20) rfl), fun h => absurd h (by decide), fun h => absurd h (by decide), by decide +kernel⟩
set_option maxRecDepth 100000 in
theorem cq14_92 : am_CP 14 (92, 0, 2, mX12_column) := ⟨moX12_column, fun _ => wr37 _ (List.mem_of_getElem? (i := 22) rfl), fun h => absurd h (by decide), fun _ => wr37 _ (List.mem_of_getElem? (i := 23) rfl), fun _ => wr38 _ (List.mem_of_getElem? (i := 0) rfl), fun h => absurd h (by decide), fun h => absurd h (by decide), by decide +kernel⟩
set_option maxRecDepth 100000 in
theorem cq14_93 : am_CP 14 (93, 0, 2, mX11_card) := ⟨moX11_card, fun _ => wr38 _ (List.mem_of_getElem? (i := 2) rfl), fun h => absurd h (by decide), fun _ => wr38 _ (List.mem_of_getElem? (i := 3) rfl), fun _ => wr38 _ (List.mem_of_getElem? (i := 4) rfl), fun h => absurd h (by decide), fun h => absurd h (by decide), by decide +kernel⟩
set_option maxRecDepth 100000 in
theorem cq14_96 : am_CP 14 (96, 0, 2, mX12_card) := ⟨moX12_card, fun _ => wr38 _ (List.mem_of_getElem? (i := 6) rfl), fun h => absurd h (by decide), fun _ => wr38 _ (List.mem_of_getElem? (i := 7) rfl), fun _ => wr38 _ (List.mem_of_getElem? (i := 8) rfl), fun h => absurd h (by decide), fun h => absurd h (by decide), by decide +kernel⟩
set_option maxRecDepth 100000 in
theorem cq14_97 : am_CP 14 (97, 0, 2, mX11_line) := ⟨moX11_line, fun _ => wr38 _ (List.mem_of_getElem? (i := 10) rfl), fun h => absurd h (by decide), fun _ => wr38 _ (List.mem_of_getElem? (i := 11) rfl), fun _ => wr38 _ (List.mem_of_getElem? (i := 12) rfl), fun h => absurd h (by decide), fun h => absurd h (by decide), by decide +kernel⟩
set_option maxRecDepth 100000 in
theorem cq14_100 : am_CP 14 (100, 0, 2, mX12_line) := ⟨moX12_line, fun _ => wr38 _ (List.mem_of_getElem? (i := 16) rfl), fun h => absurd h (by decide), fun _ => wr38 _ (List.mem_of_getElem? (i := 17) rfl), fun _ => wr38 _ (List.mem_of_getElem? (i := 18) rfl), fun h => absurd h (by decide), fun h => absurd h (by decide), by decide +kernel⟩
set_option maxRecDepth 100000 in
theorem cq14_101 : am_CP 14 (101, 0, 1, mX11_reason) := ⟨moX11_reason, fun _ => wr38 _ (List.mem_of_getElem? (i := 20) rfl), fun h => absurd h (by decide), fun _ => wr38 _ (List.mem_of_getElem? (i := 21) rfl), fun _ => wr38 _ (List.mem_of_getElem? (i := 22) rfl), fun h => absurd h (by decide), fun h => absurd h (by decide), by decide +kernel⟩
set_option maxRecDepth 100000 in
theorem cq14_104 : am_CP 14 (104, 0, 1, mX12_reason) := ⟨moX12_reason, fun _ => wr39 _ (List.mem_of_getElem? (i := 2) rfl), fun h => absurd h (by decide), fun _ => wr39 _ (List.mem_of_getElem? (i := 3) rfl), fun _ => wr39 _ (List.mem_of_getElem? (i := 4) rfl), fun h => absurd h (by decide), fun h => absurd h (by decide), by decide +kernel⟩
set_option maxRecDepth 100000 in
theorem cq14_105 : am_CP 14 (105, 0, 1, mX11_differs) := ⟨moX11_differs, fun _ => wr39 _ (List.mem_of_getElem? (i := 6) rfl), fun h => absurd h (by decide), fun _ => wr39 _ (List.mem_of_getElem? (i := 7) rfl), fun _ => wr39 _ (List.mem_of_getElem? (i := 8) rfl), fun h => absurd h (by decide), fun h => absurd h (by decide), by decide +kernel⟩
set_option maxRecDepth 100000 in
theorem cq14_108 : am_CP 14 (108, 0, 1, mX12_differs) := ⟨moX12_differs, fun _ => wr39 _ (List.mem_of_getElem? (i := 22) rfl), fun h => absurd h (by decide), fun _ => wr39 _ (List.mem_of_getElem? (i := 23) rfl), fun _ => wr40 _ (List.mem_of_getElem? (i := 0) rfl), fun h => absurd h (by decide), fun h => absurd h (by decide), by decide +kernel⟩
set_option maxRecDepth 100000 in
theorem cq14_109 : am_CP 14 (109, 0, 2, mX11_again) := ⟨moX11_again, fun _ => wr40 _ (List.mem_of_getElem? (i := 2) rfl), fun h => absurd h (by decide), fun _ => wr40 _ (List.mem_of_getElem? (i := 3) rfl), fun _ => wr40 _ (List.mem_of_getElem? (i := 4) rfl), fun h => absurd h (by decide), fun h => absurd h (by decide), by decide +kernel⟩
set_option maxRecDepth 100000 in
theorem cq14_112 : am_CP 14 (112, 0, 2, mX12_again) := ⟨moX12_again, fun _ => wr41 _ (List.mem_of_getElem? (i := 19) rfl), fun h => absurd h (by decide), fun _ => wr41 _ (List.mem_of_getElem? (i := 20) rfl), fun _ => wr41 _ (List.mem_of_getElem? (i := 21) rfl), fun h => absurd h (by decide), fun h => absurd h (by decide), by decide +kernel⟩
set_option maxRecDepth 100000 in
theorem cq14_113 : am_CP 14 (113, 0, 0, mX11_agrees) := ⟨moX11_agrees, fun _ => wr42 _ (List.mem_of_getElem? (i := 15) rfl), fun h => absurd h (by decide), fun _ => wr42 _ (List.mem_of_getElem? (i := 16) rfl), fun _ => wr42 _ (List.mem_of_getElem? (i := 17) rfl), fun h => absurd h (by decide), fun h => absurd h (by decide), by decide +kernel⟩
set_option maxRecDepth 100000 in
theorem cq14_116 : am_CP 14 (116, 0, 0, mX12_agrees) := ⟨moX12_agrees, fun _ => wr42 _ (List.mem_of_getElem? (i := 19) rfl), fun h => absurd h (by decide), fun _ => wr42 _ (List.mem_of_getElem? (i := 20) rfl), fun _ => wr42 _ (List.mem_of_getElem? (i := 21) rfl), fun h => absurd h (by decide), fun h => absurd h (by decide), by decide +kernel⟩
set_option maxRecDepth 100000 in
theorem cq14_117 : am_CP 14 (117, 0, 2, mX11_ranked) := ⟨moX11_ranked, fun _ => wr43 _ (List.mem_of_getElem? (i := 3) rfl), fun h => absurd h (by decide), fun _ => wr43 _ (List.mem_of_getElem? (i := 4) rfl), fun _ => wr43 _ (List.mem_of_getElem? (i := 5) rfl), fun h => absurd h (by decide), fun h => absurd h (by decide), by decide +kernel⟩
set_option maxRecDepth 100000 in
theorem cq14_120 : am_CP 14 (120, 0, 2, mX12_ranked) := ⟨moX12_ranked, fun _ => wr44 _ (List.mem_of_getElem? (i := 3) rfl), fun h => absurd h (by decide), fun _ => wr44 _ (List.mem_of_getElem? (i := 4) rfl), fun _ => wr44 _ (List.mem_of_getElem? (i := 5) rfl), fun h => absurd h (by decide), fun h => absurd h (by decide), by decide +kernel⟩
set_option maxRecDepth 100000 in
theorem cq14_121 : am_CP 14 (121, 0, 0, mX11_mean) := ⟨moX11_mean, fun _ => wr44 _ (List.mem_of_getElem? (i := 15) rfl), fun h => absurd h (by decide), fun _ => wr44 _ (List.mem_of_getElem? (i := 16) rfl), fun _ => wr44 _ (List.mem_of_getElem? (i := 17) rfl), fun h => absurd h (by decide), fun h => absurd h (by decide), by decide +kernel⟩
set_option maxRecDepth 100000 in
theorem cq14_125 : am_CP 14 (125, 0, 0, mX12_mean) := ⟨moX12_mean, fun _ => wr44 _ (List.mem_of_getElem? (i := 20) rfl), fun h => absurd h (by decide), fun _ => wr44 _ (List.mem_of_getElem? (i := 21) rfl), fun _ => wr44 _ (List.mem_of_getElem? (i := 22) rfl), fun h => absurd h (by decide), fun h => absurd h (by decide), by decide +kernel⟩
set_option maxRecDepth 100000 in
theorem cq14_126 : am_CP 14 (126, 0, 0, mX11_passes) := ⟨moX11_passes, fun _ => wr45 _ (List.mem_of_getElem? (i := 1) rfl), fun h => absurd h (by decide), fun _ => wr45 _ (List.mem_of_getElem? (i := 2) rfl), fun _ => wr45 _ (List.mem_of_getElem? (i := 3) rfl), fun h => absurd h (by decide), fun h => absurd h (by decide), by decide +kernel⟩
set_option maxRecDepth 100000 in
theorem cq14_129 : am_CP 14 (129, 0, 0, mX12_passes) := ⟨moX12_passes, fun _ => wr45 _ (List.mem_of_getElem? (i := 9) rfl), fun h => absurd h (by decide), fun _ => wr45 _ (List.mem_of_getElem? (i := 10) rfl), fun _ => wr45 _ (List.mem_of_getElem? (i := 11) rfl), fun h => absurd h (by decide), fun h => absurd h (by decide), by decide +kernel⟩
set_option maxRecDepth 100000 in
theorem cq14_130 : am_CP 14 (130, 0, 1, mX11_accepts) := ⟨moX11_accepts, fun _ => wr46 _ (List.mem_of_getElem? (i := 1) rfl), fun h => absurd h (by decide), fun _ => wr46 _ (List.mem_of_getElem? (i := 2) rfl), fun _ => wr46 _ (List.mem_of_getElem? (i := 3) rfl), fun h => absurd h (by decide), fun h => absurd h (by decide), by decide +kernel⟩
set_option maxRecDepth 100000 in
theorem cq14_133 : am_CP 14 (133, 0, 1, mX12_accepts) := ⟨moX12_accepts, fun _ => wr46 _ (List.mem_of_getElem? (i := 5) rfl), fun h => absurd h (by decide), fun _ => wr46 _ (List.mem_of_getElem? (i := 6) rfl), fun _ => wr46 _ (List.mem_of_getElem? (i := 7) rfl), fun h => absurd h (by decide), fun h => absurd h (by decide), by decide +kernel⟩
set_option maxRecDepth 100000 in
theorem cq14_134 : am_CP 14 (134, 0, 1, mX11_keep) := ⟨moX11_keep, fun _ => wr46 _ (List.mem_of_getElem? (i := 9) rfl), fun h => absurd h (by decide), fun _ => wr46 _ (List.mem_of_getElem? (i := 10) rfl), fun _ => wr46 _ (List.mem_of_getElem? (i := 11) rfl), fun h => absurd h (by decide), fun h => absurd h (by decide), by decide +kernel⟩
set_option maxRecDepth 100000 in
theorem cq14_137 : am_CP 14 (137, 0, 1, mX12_keep) := ⟨moX12_keep, fun _ => wr46 _ (List.mem_of_getElem? (i := 14) rfl), fun h => absurd h (by decide), fun _ => wr46 _ (List.mem_of_getElem? (i := 15) rfl), fun _ => wr46 _ (List.mem_of_getElem? (i := 16) rfl), fun h => absurd h (by decide), fun h => absurd h (by decide), by decide +kernel⟩
set_option maxRecDepth 100000 in
theorem cq14_138 : am_CP 14 (138, 0, 1, mX11_back) := ⟨moX11_back, fun _ => wr46 _ (List.mem_of_getElem? (i := 22) rfl), fun h => absurd h (by decide), fun _ => wr46 _ (List.mem_of_getElem? (i := 23) rfl), fun _ => wr47 _ (List.mem_of_getElem? (i := 0) rfl), fun h => absurd h (by decide), fun h => absurd h (by decide), by decide +kernel⟩
set_option maxRecDepth 100000 in
theorem cq14_141 : am_CP 14 (141, 0, 1, mX12_back) := ⟨moX12_back, fun _ => wr47 _ (List.mem_of_getElem? (i := 2) rfl), fun h => absurd h (by decide), fun _ => wr47 _ (List.mem_of_getElem? (i := 3) rfl), fun _ => wr47 _ (List.mem_of_getElem? (i := 4) rfl), fun h => absurd h (by decide), fun h => absurd h (by decide), by decide +kernel⟩
set_option maxRecDepth 100000 in
theorem am_callP0 : ∀ e ∈ (am_callL 0), am_CP 0 e := List.forall_mem_cons.mpr ⟨cq0_15, List.forall_mem_cons.mpr ⟨cq0_26, List.forall_mem_cons.mpr ⟨cq0_30, List.forall_mem_cons.mpr ⟨cq0_40, fun _ h => absurd h List.not_mem_nil⟩⟩⟩⟩
set_option maxRecDepth 100000 in
theorem am_callP1 : ∀ e ∈ (am_callL 1), am_CP 1 e := List.forall_mem_cons.mpr ⟨cq1_17, List.forall_mem_cons.mpr ⟨cq1_26, List.forall_mem_cons.mpr ⟨cq1_30, List.forall_mem_cons.mpr ⟨cq1_33, List.forall_mem_cons.mpr ⟨cq1_37, List.forall_mem_cons.mpr ⟨cq1_41, List.forall_mem_cons.mpr ⟨cq1_45, fun _ h => absurd h List.not_mem_nil⟩⟩⟩⟩⟩⟩⟩
set_option maxRecDepth 100000 in
theorem am_callP2 : ∀ e ∈ (am_callL 2), am_CP 2 e := List.forall_mem_cons.mpr ⟨cq2_21, List.forall_mem_cons.mpr ⟨cq2_25, List.forall_mem_cons.mpr ⟨cq2_32, List.forall_mem_cons.mpr ⟨cq2_38, fun _ h => absurd h List.not_mem_nil⟩⟩⟩⟩
set_option maxRecDepth 100000 in
theorem am_callP3 : ∀ e ∈ (am_callL 3), am_CP 3 e := List.forall_mem_cons.mpr ⟨cq3_18, List.forall_mem_cons.mpr ⟨cq3_22, List.forall_mem_cons.mpr ⟨cq3_26, List.forall_mem_cons.mpr ⟨cq3_29, List.forall_mem_cons.mpr ⟨cq3_35, List.forall_mem_cons.mpr ⟨cq3_39, List.forall_mem_cons.mpr ⟨cq3_44, fun _ h => absurd h List.not_mem_nil⟩⟩⟩⟩⟩⟩⟩
set_option maxRecDepth 100000 in
theorem am_callP4 : ∀ e ∈ (am_callL 4), am_CP 4 e := List.forall_mem_cons.mpr ⟨cq4_11, List.forall_mem_cons.mpr ⟨cq4_27, List.forall_mem_cons.mpr ⟨cq4_34, List.forall_mem_cons.mpr ⟨cq4_38, List.forall_mem_cons.mpr ⟨cq4_42, List.forall_mem_cons.mpr ⟨cq4_48, List.forall_mem_cons.mpr ⟨cq4_52, List.forall_mem_cons.mpr ⟨cq4_56, List.forall_mem_cons.mpr ⟨cq4_59, List.forall_mem_cons.mpr ⟨cq4_70, List.forall_mem_cons.mpr ⟨cq4_74, fun _ h => absurd h List.not_mem_nil⟩⟩⟩⟩⟩⟩⟩⟩⟩⟩⟩
set_option maxRecDepth 100000 in
theorem am_callP5 : ∀ e ∈ (am_callL 5), am_CP 5 e := List.forall_mem_cons.mpr ⟨cq5_34, List.forall_mem_cons.mpr ⟨cq5_39, List.forall_mem_cons.mpr ⟨cq5_43, List.forall_mem_cons.mpr ⟨cq5_47, List.forall_mem_cons.mpr ⟨cq5_50, List.forall_mem_cons.mpr ⟨cq5_53, fun _ h => absurd h List.not_mem_nil⟩⟩⟩⟩⟩⟩
set_option maxRecDepth 100000 in
theorem am_callP6 : ∀ e ∈ (am_callL 6), am_CP 6 e := List.forall_mem_cons.mpr ⟨cq6_17, List.forall_mem_cons.mpr ⟨cq6_34, List.forall_mem_cons.mpr ⟨cq6_38, List.forall_mem_cons.mpr ⟨cq6_42, List.forall_mem_cons.mpr ⟨cq6_46, List.forall_mem_cons.mpr ⟨cq6_50, List.forall_mem_cons.mpr ⟨cq6_54, List.forall_mem_cons.mpr ⟨cq6_61, List.forall_mem_cons.mpr ⟨cq6_65, List.forall_mem_cons.mpr ⟨cq6_69, List.forall_mem_cons.mpr ⟨cq6_75, List.forall_mem_cons.mpr ⟨cq6_91, List.forall_mem_cons.mpr ⟨cq6_95, fun _ h => absurd h List.not_mem_nil⟩⟩⟩⟩⟩⟩⟩⟩⟩⟩⟩⟩⟩
set_option maxRecDepth 100000 in
theorem am_callP7 : ∀ e ∈ (am_callL 7), am_CP 7 e := List.forall_mem_cons.mpr ⟨cq7_27, List.forall_mem_cons.mpr ⟨cq7_43, List.forall_mem_cons.mpr ⟨cq7_47, List.forall_mem_cons.mpr ⟨cq7_51, List.forall_mem_cons.mpr ⟨cq7_61, List.forall_mem_cons.mpr ⟨cq7_65, List.forall_mem_cons.mpr ⟨cq7_69, List.forall_mem_cons.mpr ⟨cq7_75, fun _ h => absurd h List.not_mem_nil⟩⟩⟩⟩⟩⟩⟩⟩
set_option maxRecDepth 100000 in
theorem am_callP8 : ∀ e ∈ (am_callL 8), am_CP 8 e := List.forall_mem_cons.mpr ⟨cq8_11, List.forall_mem_cons.mpr ⟨cq8_20, List.forall_mem_cons.mpr ⟨cq8_27, List.forall_mem_cons.mpr ⟨cq8_40, List.forall_mem_cons.mpr ⟨cq8_44, List.forall_mem_cons.mpr ⟨cq8_48, List.forall_mem_cons.mpr ⟨cq8_51, fun _ h => absurd h List.not_mem_nil⟩⟩⟩⟩⟩⟩⟩
set_option maxRecDepth 100000 in
theorem am_callP9 : ∀ e ∈ (am_callL 9), am_CP 9 e := List.forall_mem_cons.mpr ⟨cq9_35, List.forall_mem_cons.mpr ⟨cq9_39, List.forall_mem_cons.mpr ⟨cq9_43, List.forall_mem_cons.mpr ⟨cq9_47, List.forall_mem_cons.mpr ⟨cq9_51, List.forall_mem_cons.mpr ⟨cq9_54, List.forall_mem_cons.mpr ⟨cq9_57, List.forall_mem_cons.mpr ⟨cq9_60, List.forall_mem_cons.mpr ⟨cq9_63, List.forall_mem_cons.mpr ⟨cq9_67, List.forall_mem_cons.mpr ⟨cq9_71, List.forall_mem_cons.mpr ⟨cq9_76, List.forall_mem_cons.mpr ⟨cq9_79, List.forall_mem_cons.mpr ⟨cq9_83, List.forall_mem_cons.mpr ⟨cq9_86, fun _ h => absurd h List.not_mem_nil⟩⟩⟩⟩⟩⟩⟩⟩⟩⟩⟩⟩⟩⟩⟩
set_option maxRecDepth 100000 in
theorem am_callP10 : ∀ e ∈ (am_callL 10), am_CP 10 e := List.forall_mem_cons.mpr ⟨cq10_23, List.forall_mem_cons.mpr ⟨cq10_42, fun _ h => absurd h List.not_mem_nil⟩⟩
set_option maxRecDepth 100000 in
theorem am_callP11 : ∀ e ∈ (am_callL 11), am_CP 11 e := List.forall_mem_cons.mpr ⟨cq11_11, List.forall_mem_cons.mpr ⟨cq11_18, List.forall_mem_cons.mpr ⟨cq11_29, List.forall_mem_cons.mpr ⟨cq11_36, List.forall_mem_cons.mpr ⟨cq11_43, List.forall_mem_cons.mpr ⟨cq11_50, List.forall_mem_cons.mpr ⟨cq11_57, List.forall_mem_cons.mpr ⟨cq11_64, List.forall_mem_cons.mpr ⟨cq11_69, List.forall_mem_cons.mpr ⟨cq11_73, List.forall_mem_cons.mpr ⟨cq11_78, List.forall_mem_cons.mpr ⟨cq11_86, List.forall_mem_cons.mpr ⟨cq11_92, List.forall_mem_cons.mpr ⟨cq11_96, List.forall_mem_cons.mpr ⟨cq11_103, List.forall_mem_cons.mpr ⟨cq11_106, List.forall_mem_cons.mpr ⟨cq11_112, List.forall_mem_cons.mpr ⟨cq11_124, List.forall_mem_cons.mpr ⟨cq11_130, List.forall_mem_cons.mpr ⟨cq11_136, List.forall_mem_cons.mpr ⟨cq11_140, List.forall_mem_cons.mpr ⟨cq11_144, List.forall_mem_cons.mpr ⟨cq11_148, List.forall_mem_cons.mpr ⟨cq11_152, List.forall_mem_cons.mpr ⟨cq11_155, List.forall_mem_cons.mpr ⟨cq11_159, List.forall_mem_cons.mpr ⟨cq11_167, List.forall_mem_cons.mpr ⟨cq11_170, List.forall_mem_cons.mpr ⟨cq11_173, List.forall_mem_cons.mpr ⟨cq11_183, List.forall_mem_cons.mpr ⟨cq11_187, List.forall_mem_cons.mpr ⟨cq11_191, List.forall_mem_cons.mpr ⟨cq11_195, List.forall_mem_cons.mpr ⟨cq11_202, List.forall_mem_cons.mpr ⟨cq11_206, List.forall_mem_cons.mpr ⟨cq11_208, List.forall_mem_cons.mpr ⟨cq11_212, List.forall_mem_cons.mpr ⟨cq11_216, List.forall_mem_cons.mpr ⟨cq11_220, List.forall_mem_cons.mpr ⟨cq11_223, List.forall_mem_cons.mpr ⟨cq11_224, List.forall_mem_cons.mpr ⟨cq11_225, List.forall_mem_cons.mpr ⟨cq11_228, List.forall_mem_cons.mpr ⟨cq11_240, List.forall_mem_cons.mpr ⟨cq11_241, List.forall_mem_cons.mpr ⟨cq11_244, List.forall_mem_cons.mpr ⟨cq11_247, List.forall_mem_cons.mpr ⟨cq11_250, List.forall_mem_cons.mpr ⟨cq11_254, List.forall_mem_cons.mpr ⟨cq11_257, List.forall_mem_cons.mpr ⟨cq11_258, List.forall_mem_cons.mpr ⟨cq11_262, List.forall_mem_cons.mpr ⟨cq11_265, List.forall_mem_cons.mpr ⟨cq11_268, List.forall_mem_cons.mpr ⟨cq11_271, List.forall_mem_cons.mpr ⟨cq11_274, List.forall_mem_cons.mpr ⟨cq11_277, List.forall_mem_cons.mpr ⟨cq11_278, List.forall_mem_cons.mpr ⟨cq11_281, List.forall_mem_cons.mpr ⟨cq11_298, List.forall_mem_cons.mpr ⟨cq11_301, List.forall_mem_cons.mpr ⟨cq11_305, List.forall_mem_cons.mpr ⟨cq11_310, List.forall_mem_cons.mpr ⟨cq11_314, List.forall_mem_cons.mpr ⟨cq11_318, List.forall_mem_cons.mpr ⟨cq11_321, List.forall_mem_cons.mpr ⟨cq11_324, List.forall_mem_cons.mpr ⟨cq11_328, List.forall_mem_cons.mpr ⟨cq11_332, List.forall_mem_cons.mpr ⟨cq11_339, fun _ h => absurd h List.not_mem_nil⟩⟩⟩⟩⟩⟩⟩⟩⟩⟩⟩⟩⟩⟩⟩⟩⟩⟩⟩⟩⟩⟩⟩⟩⟩⟩⟩⟩⟩⟩⟩⟩⟩⟩⟩⟩⟩⟩⟩⟩⟩⟩⟩⟩⟩⟩⟩⟩⟩⟩⟩⟩⟩⟩⟩⟩⟩⟩⟩⟩⟩⟩⟩⟩⟩⟩⟩⟩⟩⟩
set_option maxRecDepth 100000 in
theorem am_callP12 : ∀ e ∈ (am_callL 12), am_CP 12 e := List.forall_mem_cons.mpr ⟨cq12_57, List.forall_mem_cons.mpr ⟨cq12_64, List.forall_mem_cons.mpr ⟨cq12_68, List.forall_mem_cons.mpr ⟨cq12_72, List.forall_mem_cons.mpr ⟨cq12_76, List.forall_mem_cons.mpr ⟨cq12_80, List.forall_mem_cons.mpr ⟨cq12_83, List.forall_mem_cons.mpr ⟨cq12_86, List.forall_mem_cons.mpr ⟨cq12_89, List.forall_mem_cons.mpr ⟨cq12_103, List.forall_mem_cons.mpr ⟨cq12_110, List.forall_mem_cons.mpr ⟨cq12_113, List.forall_mem_cons.mpr ⟨cq12_118, List.forall_mem_cons.mpr ⟨cq12_121, List.forall_mem_cons.mpr ⟨cq12_125, List.forall_mem_cons.mpr ⟨cq12_129, List.forall_mem_cons.mpr ⟨cq12_134, List.forall_mem_cons.mpr ⟨cq12_137, List.forall_mem_cons.mpr ⟨cq12_140, List.forall_mem_cons.mpr ⟨cq12_143, List.forall_mem_cons.mpr ⟨cq12_146, List.forall_mem_cons.mpr ⟨cq12_149, List.forall_mem_cons.mpr ⟨cq12_152, List.forall_mem_cons.mpr ⟨cq12_155, List.forall_mem_cons.mpr ⟨cq12_158, List.forall_mem_cons.mpr ⟨cq12_163, List.forall_mem_cons.mpr ⟨cq12_166, List.forall_mem_cons.mpr ⟨cq12_170, List.forall_mem_cons.mpr ⟨cq12_175, List.forall_mem_cons.mpr ⟨cq12_179, List.forall_mem_cons.mpr ⟨cq12_182, List.forall_mem_cons.mpr ⟨cq12_186, List.forall_mem_cons.mpr ⟨cq12_189, List.forall_mem_cons.mpr ⟨cq12_192, List.forall_mem_cons.mpr ⟨cq12_195, List.forall_mem_cons.mpr ⟨cq12_198, List.forall_mem_cons.mpr ⟨cq12_201, List.forall_mem_cons.mpr ⟨cq12_204, List.forall_mem_cons.mpr ⟨cq12_208, List.forall_mem_cons.mpr ⟨cq12_211, List.forall_mem_cons.mpr ⟨cq12_214, List.forall_mem_cons.mpr ⟨cq12_217, List.forall_mem_cons.mpr ⟨cq12_220, List.forall_mem_cons.mpr ⟨cq12_223, List.forall_mem_cons.mpr ⟨cq12_227, List.forall_mem_cons.mpr ⟨cq12_232, List.forall_mem_cons.mpr ⟨cq12_235, List.forall_mem_cons.mpr ⟨cq12_238, List.forall_mem_cons.mpr ⟨cq12_241, fun _ h => absurd h List.not_mem_nil⟩⟩⟩⟩⟩⟩⟩⟩⟩⟩⟩⟩⟩⟩⟩⟩⟩⟩⟩⟩⟩⟩⟩⟩⟩⟩⟩⟩⟩⟩⟩⟩⟩⟩⟩⟩⟩⟩⟩⟩⟩⟩⟩⟩⟩⟩⟩⟩⟩
set_option maxRecDepth 100000 in
theorem am_callP14 : ∀ e ∈ (am_callL 14), am_CP 14 e := List.forall_mem_cons.mpr ⟨cq14_9, List.forall_mem_cons.mpr ⟨cq14_12, List.forall_mem_cons.mpr ⟨cq14_13, List.forall_mem_cons.mpr ⟨cq14_17, List.forall_mem_cons.mpr ⟨cq14_18, List.forall_mem_cons.mpr ⟨cq14_22, List.forall_mem_cons.mpr ⟨cq14_23, List.forall_mem_cons.mpr ⟨cq14_26, List.forall_mem_cons.mpr ⟨cq14_27, List.forall_mem_cons.mpr ⟨cq14_31, List.forall_mem_cons.mpr ⟨cq14_32, List.forall_mem_cons.mpr ⟨cq14_35, List.forall_mem_cons.mpr ⟨cq14_36, List.forall_mem_cons.mpr ⟨cq14_39, List.forall_mem_cons.mpr ⟨cq14_40, List.forall_mem_cons.mpr ⟨cq14_43, List.forall_mem_cons.mpr ⟨cq14_44, List.forall_mem_cons.mpr ⟨cq14_47, List.forall_mem_cons.mpr ⟨cq14_48, List.forall_mem_cons.mpr ⟨cq14_51, List.forall_mem_cons.mpr ⟨cq14_52, List.forall_mem_cons.mpr ⟨cq14_55, List.forall_mem_cons.mpr ⟨cq14_56, List.forall_mem_cons.mpr ⟨cq14_60, List.forall_mem_cons.mpr ⟨cq14_61, List.forall_mem_cons.mpr ⟨cq14_64, List.forall_mem_cons.mpr ⟨cq14_65, List.forall_mem_cons.mpr ⟨cq14_68, List.forall_mem_cons.mpr ⟨cq14_69, List.forall_mem_cons.mpr ⟨cq14_72, List.forall_mem_cons.mpr ⟨cq14_73, List.forall_mem_cons.mpr ⟨cq14_76, List.forall_mem_cons.mpr ⟨cq14_77, List.forall_mem_cons.mpr ⟨cq14_80, List.forall_mem_cons.mpr ⟨cq14_81, List.forall_mem_cons.mpr ⟨cq14_84, List.forall_mem_cons.mpr ⟨cq14_85, List.forall_mem_cons.mpr ⟨cq14_88, List.forall_mem_cons.mpr ⟨cq14_89, List.forall_mem_cons.mpr ⟨cq14_92, List.forall_mem_cons.mpr ⟨cq14_93, List.forall_mem_cons.mpr ⟨cq14_96, List.forall_mem_cons.mpr ⟨cq14_97, List.forall_mem_cons.mpr ⟨cq14_100, List.forall_mem_cons.mpr ⟨cq14_101, List.forall_mem_cons.mpr ⟨cq14_104, List.forall_mem_cons.mpr ⟨cq14_105, List.forall_mem_cons.mpr ⟨cq14_108, List.forall_mem_cons.mpr ⟨cq14_109, List.forall_mem_cons.mpr ⟨cq14_112, List.forall_mem_cons.mpr ⟨cq14_113, List.forall_mem_cons.mpr ⟨cq14_116, List.forall_mem_cons.mpr ⟨cq14_117, List.forall_mem_cons.mpr ⟨cq14_120, List.forall_mem_cons.mpr ⟨cq14_121, List.forall_mem_cons.mpr ⟨cq14_125, List.forall_mem_cons.mpr ⟨cq14_126, List.forall_mem_cons.mpr ⟨cq14_129, List.forall_mem_cons.mpr ⟨cq14_130, List.forall_mem_cons.mpr ⟨cq14_133, List.forall_mem_cons.mpr ⟨cq14_134, List.forall_mem_cons.mpr ⟨cq14_137, List.forall_mem_cons.mpr ⟨cq14_138, List.forall_mem_cons.mpr ⟨cq14_141, fun _ h => absurd h List.not_mem_nil⟩⟩⟩⟩⟩⟩⟩⟩⟩⟩⟩⟩⟩⟩⟩⟩⟩⟩⟩⟩⟩⟩⟩⟩⟩⟩⟩⟩⟩⟩⟩⟩⟩⟩⟩⟩⟩⟩⟩⟩⟩⟩⟩⟩⟩⟩⟩⟩⟩⟩⟩⟩⟩⟩⟩⟩⟩⟩⟩⟩⟩⟩⟩⟩
theorem am_callP (c : Nat) : ∀ e ∈ am_callL c, am_CP c e := by
  match c with
  | 0 => exact am_callP0
  | 1 => exact am_callP1
  | 2 => exact am_callP2
  | 3 => exact am_callP3
  | 4 => exact am_callP4
  | 5 => exact am_callP5
  | 6 => exact am_callP6
  | 7 => exact am_callP7
  | 8 => exact am_callP8
  | 9 => exact am_callP9
  | 10 => exact am_callP10
  | 11 => exact am_callP11
  | 12 => exact am_callP12
  | 13 => exact fun _ h => absurd h List.not_mem_nil
  | 14 => exact am_callP14
  | _ + 15 => exact fun _ h => absurd h List.not_mem_nil
def am_CL (ci : Nat) (r : vw_C) : Prop := (∀ w ∈ u_ws r.1 r.2.1 r.2.2, w ∈ wsL_law) ∧ (∀ k, k < r.2.2 → parseFieldDescriptor (r.2.1 k).2.2.1 = some (am_tys ci k)) ∧ (∀ a, a < r.2.2 → ∀ b, b < r.2.2 → a ≠ b → (r.2.1 a).2.1 ≠ (r.2.1 b).2.1) ∧ r.1 = am_cn ci
theorem am_clP (ci : Nat) (r : vw_C) (h : vwCl[ci]? = some r) : am_CL ci r := by
  match ci, h with
  | 0, h => cases h; exact ⟨inlX0, tyX0_ok, nmX0, rfl⟩
  | 1, h => cases h; exact ⟨inlX1, tyX1_ok, nmX1, rfl⟩
  | 2, h => cases h; exact ⟨inlX2, tyX2_ok, nmX2, rfl⟩
  | 3, h => cases h; exact ⟨inlX3, tyX3_ok, nmX3, rfl⟩
  | 4, h => cases h; exact ⟨inlX4, tyX4_ok, nmX4, rfl⟩
  | 5, h => cases h; exact ⟨inlX5, tyX5_ok, nmX5, rfl⟩
  | 6, h => cases h; exact ⟨inlX6, tyX6_ok, nmX6, rfl⟩
  | 7, h => cases h; exact ⟨inlX7, tyX7_ok, nmX7, rfl⟩
  | 8, h => cases h; exact ⟨inlX8, tyX8_ok, nmX8, rfl⟩
  | 9, h => cases h; exact ⟨inlX9, tyX9_ok, nmX9, rfl⟩
  | 10, h => cases h; exact ⟨inlX10, tyX10_ok, nmX10, rfl⟩
  | 11, h => cases h; exact ⟨inlX11, tyX11_ok, nmX11, rfl⟩
  | 12, h => cases h; exact ⟨inlX12, tyX12_ok, nmX12, rfl⟩
  | n + 13, h => simp [vwCl] at h
set_option maxRecDepth 100000 in
theorem am_good : ∀ w ∈ wsL_law, (w.onTables && w.keeps) = true ∨ ∃ ty, w = .arrayClass ty := fun w h => good_of_word (List.all_eq_true.mp (show wsL_law.all goodWord = true by decide +kernel) w h)
end
section
/-! what a small heap says of the machine's -/
theorem am_tail_len (v : Value) (l : am_L) : (am_tail v l).length = l.length := by
  unfold am_tail
  split
  · cases l <;> rfl
  · rfl
theorem am_set_nil (v : Value) (i : Nat) : am_set v i [] = [] := by
  match i with
  | 0 => rfl
  | 1 => rfl
  | _ + 2 => rfl
theorem am_set_len (v : Value) : ∀ (i : Nat) (l : am_L), (am_set v i l).length = l.length
  | i, [] => by rw [am_set_nil]
  | 0, _ :: l => by show (am_tail v l).length + 1 = _; rw [am_tail_len]; rfl
  | 1, o :: l => by show (am_set v 0 l).length + 1 = _; rw [am_set_len v 0 l]; rfl
  | i + 2, o :: l => by show (am_set v (i + 1) l).length + 1 = _; rw [am_set_len v (i + 1) l]; rfl
theorem am_kill_sp {o : Option Value} {w : Value} (h : am_kill o = some w) : o = some w ∧ ¬ w.category = 2 := by
  cases o with
  | none => cases h
  | some x =>
    unfold am_kill at h
    dsimp only at h
    split at h
    · cases h
    · cases h; exact ⟨rfl, by assumption⟩
theorem am_tail_sp {v : Value} {l : am_L} {k : Nat} {w : Value} (h : (am_tail v l)[k]? = some (some w)) : l[k]? = some (some w) ∧ (v.category = 2 → k ≠ 0) := by
  unfold am_tail at h
  split at h
  · cases l with
    | nil => simp at h
    | cons x l =>
      dsimp only at h
      cases k with
      | zero => simp at h
      | succ k => exact ⟨by simpa using h, fun _ => by omega⟩
  · exact ⟨h, fun q => absurd q (by assumption)⟩
theorem am_set_sp (v : Value) : ∀ (i : Nat) (l : am_L) (k : Nat) (w : Value), (am_set v i l)[k]? = some (some w) → (k = i ∧ w = v) ∨ (l[k]? = some (some w) ∧ k ≠ i ∧ ¬ (k + 1 = i ∧ w.category = 2) ∧ (v.category = 2 → k ≠ i + 1))
  | i, [], k, w, h => by rw [am_set_nil] at h; simp at h
  | 0, _ :: l, k, w, h => by
    have h : (some v :: am_tail v l)[k]? = some (some w) := h
    cases k with
    | zero => left; simp at h; exact ⟨rfl, h.symm⟩
    | succ k =>
      right
      rw [List.getElem?_cons_succ] at h
      obtain ⟨h1, h2⟩ := am_tail_sp h
      exact ⟨by rw [List.getElem?_cons_succ]; exact h1, by omega, by omega, fun q => by have := h2 q; omega⟩
  | 1, o :: l, k, w, h => by
    have h : (am_kill o :: am_set v 0 l)[k]? = some (some w) := h
    cases k with
    | zero =>
      right
      have h : am_kill o = some w := by simpa using h
      obtain ⟨h1, h2⟩ := am_kill_sp h
      exact ⟨by rw [h1]; rfl, by omega, fun q => h2 q.2, fun _ => by omega⟩
    | succ k =>
      rw [List.getElem?_cons_succ] at h
      rcases am_set_sp v 0 l k w h with ⟨a, b⟩ | ⟨a, b, c, d⟩
      · left; exact ⟨by omega, b⟩
      · right
        exact ⟨by rw [List.getElem?_cons_succ]; exact a, by omega, by omega, fun q => by have := d q; omega⟩
  | i + 2, o :: l, k, w, h => by
    have h : (o :: am_set v (i + 1) l)[k]? = some (some w) := h
    cases k with
    | zero => right; exact ⟨by simpa using h, by omega, by omega, fun _ => by omega⟩
    | succ k =>
      rw [List.getElem?_cons_succ] at h
      rcases am_set_sp v (i + 1) l k w h with ⟨a, b⟩ | ⟨a, b, c, d⟩
      · left; exact ⟨by omega, b⟩
      · right
        exact ⟨by rw [List.getElem?_cons_succ]; exact a, by omega, fun q => c ⟨by omega, q.2⟩, fun q => by have := d q; omega⟩
def am_al (ls : am_L) : List (Nat × Value) := ls.zipIdx.filterMap (fun q => q.1.map (fun v => (q.2, v)))
theorem am_al_mem {ls : am_L} {q : Nat × Value} : q ∈ am_al ls ↔ ls[q.1]? = some (some q.2) := by
  unfold am_al
  rw [List.mem_filterMap]
  constructor
  · rintro ⟨⟨o, i⟩, h1, h2⟩
    have h1 := List.mem_zipIdx_iff_getElem?.mp h1
    dsimp only at h1 h2
    cases o with
    | none => cases h2
    | some v => cases h2; exact h1
  · intro h
    exact ⟨(some q.2, q.1), List.mem_zipIdx_iff_getElem?.mpr h, rfl⟩
def am_Has (lsC : Array Slot) (ls : am_L) : Prop := lv_has lsC ls.length (am_al ls)
theorem am_Has.at {lsC : Array Slot} {ls : am_L} (h : am_Has lsC ls) {i : Nat} {v : Value} (hi : ls[i]? = some (some v)) : lsC[i]? = some (.val v) := h.2.2 (i, v) (am_al_mem.mpr hi)
theorem am_Has.set1 {lsC : Array Slot} {ls : am_L} {v : Value} {i : Nat} (h : lv_has lsC ls.length ((i, v) :: (am_al ls).filter (fun q => !(q.1 == i) && !(q.1 + 1 == i && q.2.category == 2)))) : am_Has lsC (am_set v i ls) := by
  refine ⟨by rw [am_set_len]; exact h.1, h.2.1, fun q hq => h.2.2 q ?_⟩
  rcases am_set_sp v i ls q.1 q.2 (am_al_mem.mp hq) with ⟨a, b⟩ | ⟨a, b, c, d⟩
  · obtain ⟨x, y⟩ := q
    dsimp only at a b
    rw [a, b]
    exact List.mem_cons_self
  · refine List.mem_cons_of_mem _ (List.mem_filter.mpr ⟨am_al_mem.mpr a, ?_⟩)
    simp only [Bool.and_eq_true, Bool.not_eq_true', beq_eq_false_iff_ne, ne_eq, Bool.and_eq_false_iff]
    refine ⟨b, ?_⟩
    by_cases e : q.1 + 1 = i
    · right; exact fun z => c ⟨e, z⟩
    · left; exact e
theorem am_Has.set2 {lsC : Array Slot} {ls : am_L} {v : Value} {i : Nat} (hv : v.category = 2) (h : lv_has lsC ls.length ((i, v) :: (am_al ls).filter (fun q => !(q.1 == i) && (!(q.1 == i + 1) && !(q.1 + 1 == i && q.2.category == 2))))) : am_Has lsC (am_set v i ls) := by
  refine ⟨by rw [am_set_len]; exact h.1, h.2.1, fun q hq => h.2.2 q ?_⟩
  rcases am_set_sp v i ls q.1 q.2 (am_al_mem.mp hq) with ⟨a, b⟩ | ⟨a, b, c, d⟩
  · obtain ⟨x, y⟩ := q
    dsimp only at a b
    rw [a, b]
    exact List.mem_cons_self
  · refine List.mem_cons_of_mem _ (List.mem_filter.mpr ⟨am_al_mem.mpr a, ?_⟩)
    simp only [Bool.and_eq_true, Bool.not_eq_true', beq_eq_false_iff_ne, ne_eq, Bool.and_eq_false_iff]
    refine ⟨b, d hv, ?_⟩
    by_cases e : q.1 + 1 = i
    · right; exact fun z => c ⟨e, z⟩
    · left; exact e
abbrev am_g : Type := va_G × (Nat → ClassId) × Nat × Nat
def am_tyA : Nat → FieldType := fun t => match t with
  | 0 => .int
  | 1 => .object "CardTabulator$Card"
  | 2 => .object "CardTabulator$State"
  | _ => .object "CardTabulator$Totals"
def am_at (g : am_g) (U : State) (a : Nat) (c : am_C) (Hc : Heap) : Prop := match c with
  | .inl (t, x) => (t = 9 ∧ a < g.2.2.1 ∧ ∃ (n : Nat) (f : Nat → Int32), x = (n, .inl f) ∧ va_T .int a n (fun j => .int (f j)) (fun q => g.2.2.1 ≤ q) U Hc) ∨ (t < 4 ∧ g.2.2.1 ≤ a ∧ Hc[a]? = some (vp_cell (g.2.1 t) x))
  | .inr (ci, fs) => g.2.2.1 ≤ a ∧ ∃ r : vw_C, vwCl[ci]? = some r ∧ fs.length = r.2.2 ∧ t_OB a (g.1.1 ci) r.2.2 (g.1.2 ci) Hc (vp_V fs)
def am_Kn (g : am_g) (U : State) : Prop := va_K g.1 vwCl [] U ∧ (∀ t, t < 4 → ArrOfT U (g.2.1 t) (am_tyA t) ∧ va_RA U (g.2.1 t) (am_tyA t)) ∧ (∀ t, 0 < t → t < 4 → va_AO (am_cn (am_comp t)) U) ∧ ∀ q ∈ am_nests, va_Nw (.methodLinkNest q.1 q.2.1 q.2.2.1 q.2.2.2) U
def am_Inv (g : am_g) (U : State) (H : am_H) (Hc : Heap) : Prop := Hc.size = H.2.1 ∧ g.2.2.1 ≤ H.2.1 ∧ va_Z "CardTabulator" "MOST_OF_SETTING" "[I" (.ref g.2.2.2) (fun q => g.2.2.1 ≤ q) U Hc ∧ ∀ a c, H.1 a = some c → a < H.2.1 ∧ am_at g U a c Hc
theorem am_Kn.moved {g : am_g} {u U : State} (hW : u.WarmedH U.vm) (h : am_Kn g u) : am_Kn g U :=
  ⟨va_K.moved hW.alike h.1, fun t ht => ⟨arrOfT_moved hW.alike (h.2.1 t ht).1, (h.2.1 t ht).2.moved hW.alike⟩, fun t h0 ht => va_AO.moved hW.alike (h.2.2.1 t h0 ht), fun q hq => va_Nw.warmM hW (h.2.2.2 q hq)⟩
theorem am_Kn.same {g : am_g} {u U : State} (hW : u.vm = U.vm) (h : am_Kn g u) : am_Kn g U :=
  ⟨va_K.moved (hW ▸ Vm.Alike.refl u.vm) h.1, fun t ht => ⟨arrOfT_moved (hW ▸ Vm.Alike.refl u.vm) (h.2.1 t ht).1, (h.2.1 t ht).2.moved (hW ▸ Vm.Alike.refl u.vm)⟩, fun t h0 ht => va_AO.moved (hW ▸ Vm.Alike.refl u.vm) (h.2.2.1 t h0 ht), fun q hq => va_Nw.same rfl hW (h.2.2.2 q hq)⟩
theorem am_at.moved {g : am_g} {u U : State} {a : Nat} {c : am_C} {Hc : Heap} (hvm : u.vm.Alike U.vm) (h : am_at g u a c Hc) : am_at g U a c Hc := by
  rcases c with ⟨t, x⟩ | ⟨ci, fs⟩
  · rcases h with ⟨h1, h2, n, f, h3, h4⟩ | h
    · exact Or.inl ⟨h1, h2, n, f, h3, h4.moved hvm⟩
    · exact Or.inr h
  · exact h
theorem am_at.kept {g : am_g} {U : State} {a : Nat} {c : am_C} {Hc Hc' : Heap} (hq : Hc'[a]? = Hc[a]?) (h : am_at g U a c Hc) : am_at g U a c Hc' := by
  rcases c with ⟨t, x⟩ | ⟨ci, fs⟩
  · rcases h with ⟨h1, h2, n, f, h3, cell, h4, h5⟩ | ⟨h1, h2, h3⟩
    · exact Or.inl ⟨h1, h2, n, f, h3, cell, hq.trans h4, h5⟩
    · exact Or.inr ⟨h1, h2, hq.trans h3⟩
  · obtain ⟨h0, r, h1, h2, h3⟩ := h
    exact ⟨h0, r, h1, h2, h3.kept hq⟩
theorem am_Inv.moved {g : am_g} {u U : State} {H : am_H} {Hc : Heap} (hvm : u.vm.Alike U.vm) (h : am_Inv g u H Hc) : am_Inv g U H Hc :=
  ⟨h.1, h.2.1, va_Z.moved hvm h.2.2.1, fun a c hc => ⟨(h.2.2.2 a c hc).1, (h.2.2.2 a c hc).2.moved hvm⟩⟩
theorem am_Inv.put {g : am_g} {U : State} {H : am_H} {Hc Hc' : Heap} {a : Nat} {c' : am_C} (h : am_Inv g U H Hc) (hz : Hc'.size = Hc.size) (ho : ∀ q, q ≠ a → Hc'[q]? = Hc[q]?) (ha : g.2.2.1 ≤ a) (hl : a < H.2.1) (hc : am_at g U a c' Hc') : am_Inv g U (va_up H.1 a (some c'), H.2.1, H.2.2) Hc' := by
  refine ⟨hz.trans h.1, h.2.1, va_Z.kept h.2.2.1 (fun q _ hq => ho q (fun e => hq (by rw [e]; exact ha))), fun b cb hb => ?_⟩
  have hb : va_up H.1 a (some c') b = some cb := hb
  unfold va_up at hb
  by_cases e : b = a
  · rw [if_pos e] at hb
    cases hb
    subst e
    exact ⟨hl, hc⟩
  · rw [if_neg e] at hb
    exact ⟨(h.2.2.2 b cb hb).1, (h.2.2.2 b cb hb).2.kept (ho b e)⟩
theorem am_Inv.push {g : am_g} {U : State} {H : am_H} {Hc Hc' : Heap} {n : Nat} {c' : am_C} (h : am_Inv g U H Hc) (hz : Hc'.size = Hc.size + 1) (ho : ∀ q, q < Hc.size → Hc'[q]? = Hc[q]?) (hc : am_at g U H.2.1 c' Hc') : am_Inv g U (va_up H.1 H.2.1 (some c'), H.2.1 + 1, n) Hc' := by
  have h1 := h.1
  have h2 := h.2.1
  refine ⟨by rw [hz, h.1], by show g.2.2.1 ≤ H.2.1 + 1; omega, va_Z.kept h.2.2.1 (fun q hq _ => ho q hq), fun b cb hb => ?_⟩
  have hb : va_up H.1 H.2.1 (some c') b = some cb := hb
  unfold va_up at hb
  by_cases e : b = H.2.1
  · rw [if_pos e] at hb
    cases hb
    subst e
    exact ⟨Nat.lt_succ_self _, hc⟩
  · rw [if_neg e] at hb
    have h3 := (h.2.2.2 b cb hb).1
    exact ⟨Nat.lt_succ_of_lt h3, (h.2.2.2 b cb hb).2.kept (ho b (by omega))⟩
theorem am_in {i : Int32} {n : Nat} (h0 : 0 ≤ i) (h1 : i.toNatClampNeg < n) : ¬ (i < 0 ∨ n ≤ i.toNatClampNeg) := by
  rintro (h | h)
  · exact absurd h0 (Int32.not_le.mpr h)
  · omega
theorem am_nlt {i : Int32} (h0 : 0 ≤ i) : ¬ i < 0 := fun h => absurd h0 (Int32.not_le.mpr h)
end
section
section AMS
variable {p : Program} {l : Launch} {e : Env} {R : Room} {s : State} {m : MethodId} {args : Array Value} {below : List Frame} {meth : Method} {c : Code} {Q : State → Prop} {g : am_g} {mi : am_I} {sz0 sl0 : Nat}
def am_Cx (p : Program) (R : Room) (s : State) (m : MethodId) (args : Array Value) (meth : Method) (c : Code) (g : am_g) (mi : am_I) (sz0 : Nat) : Prop :=
  p.tables.exec = Jvm.exec ∧ c.code = mi.2.1 ∧ c.maxLocals = mi.2.2.2.1 ∧ s.vm.findClass (am_cn mi.1) = some m.cls ∧ (∀ w ∈ wsL_law, w.before args s = true) ∧ (am_ini mi = true → meth.name = "<init>") ∧ (R.frames = mi.2.2.2.2.2.1 ∧ R.locals = mi.2.2.2.2.2.2) ∧ am_Kn g s ∧ g.2.2.1 ≤ s.heap.size
/-- from every machine's state that the small one tells, Q is reached -/
def am_K (p : Program) (l : Launch) (e : Env) (R : Room) (s : State) (m : MethodId) (args : Array Value) (below : List Frame) (meth : Method) (c : Code) (Q : State → Prop) (g : am_g) (mi : am_I) (sz0 sl0 : Nat) (pc : Nat) (ls : am_L) (st : List Value) (H : am_H) : Prop :=
  ∀ (lsC : Array Slot) (Hc : Heap) (locs : List Loc), am_Has lsC ls → ls.length = mi.2.2.2.1 → am_Inv g s H Hc → va_S (fun q => g.2.2.1 ≤ q) s.heap Hc locs → sz0 ≤ H.2.1 → sl0 ≤ H.2.2 → W p l e R s m args below meth c Hc locs (H.2.1 - sz0) (H.2.2 - sl0) Q (F0 m pc lsC st)
theorem am_isI_v {v : Value} (h : am_isI v = true) : ∃ x, v = .int x := by cases v <;> first | exact ⟨_, rfl⟩ | cases h
theorem am_isL_v {v : Value} (h : am_isL v = true) : ∃ x, v = .long x := by cases v <;> first | exact ⟨_, rfl⟩ | cases h
theorem am_isD_v {v : Value} (h : am_isD v = true) : ∃ x, v = .double x := by cases v <;> first | exact ⟨_, rfl⟩ | cases h
theorem am_isA_v {v : Value} (h : am_isA v = true) : (∃ x, v = .ref x) ∨ v = .null := by cases v <;> first | exact Or.inl ⟨_, rfl⟩ | exact Or.inr rfl | cases h
theorem am_load_inv {ok : Value → Bool} {i pc : Nat} {ls : am_L} {st : List Value} {H : am_H} {r : Nat × am_L × List Value × am_H} (h : am_load ok i pc ls st H = some r) : ∃ v, ls[i]? = some (some v) ∧ ok v = true ∧ r = (pc, ls, v :: st, H) := by
  unfold am_load at h
  split at h
  · rename_i v hv
    split at h
    · cases h; exact ⟨v, hv, by assumption, rfl⟩
    · cases h
  · cases h
theorem am_store_inv {ok : Value → Bool} {i pc : Nat} {ls : am_L} {st : List Value} {H : am_H} {r : Nat × am_L × List Value × am_H} (h : am_store ok i pc ls st H = some r) : ∃ v st0, st = v :: st0 ∧ ok v = true ∧ i + v.category ≤ ls.length ∧ r = (pc, am_set v i ls, st0, H) := by
  unfold am_store at h
  split at h
  · rename_i v st0
    split at h
    · rename_i q; cases h; exact ⟨v, st0, rfl, q.1, q.2, rfl⟩
    · cases h
  · cases h
theorem am_iinc_inv {i pc : Nat} {k : Int} {ls : am_L} {st : List Value} {H : am_H} {r : Nat × am_L × List Value × am_H} (h : am_iinc i k pc ls st H = some r) : ∃ x, ls[i]? = some (some (.int x)) ∧ r = (pc, am_set (.int (x + Int32.ofInt k)) i ls, st, H) := by
  unfold am_iinc at h
  split at h
  · rename_i x hx; cases h; exact ⟨x, hx, rfl⟩
  · cases h
theorem am_i2_inv {f : Int32 → Int32 → Option Int32} {pc : Nat} {ls : am_L} {st : List Value} {H : am_H} {r : Nat × am_L × List Value × am_H} (h : am_i2 f pc ls st H = some r) : ∃ x y z st0, st = .int y :: .int x :: st0 ∧ f x y = some z ∧ r = (pc, ls, .int z :: st0, H) := by
  unfold am_i2 at h
  split at h
  · rename_i y x st0
    split at h
    · rename_i z hz; cases h; exact ⟨x, y, z, st0, rfl, hz, rfl⟩
    · cases h
  · cases h
theorem am_l2_inv {f : Int64 → Int64 → Option Value} {pc : Nat} {ls : am_L} {st : List Value} {H : am_H} {r : Nat × am_L × List Value × am_H} (h : am_l2 f pc ls st H = some r) : ∃ x y z st0, st = .long y :: .long x :: st0 ∧ f x y = some z ∧ r = (pc, ls, z :: st0, H) := by
  unfold am_l2 at h
  split at h
  · rename_i y x st0
    split at h
    · rename_i z hz; cases h; exact ⟨x, y, z, st0, rfl, hz, rfl⟩
    · cases h
  · cases h
theorem am_u1_inv {f : Value → Option Value} {pc : Nat} {ls : am_L} {st : List Value} {H : am_H} {r : Nat × am_L × List Value × am_H} (h : am_u1 f pc ls st H = some r) : ∃ v z st0, st = v :: st0 ∧ f v = some z ∧ r = (pc, ls, z :: st0, H) := by
  unfold am_u1 at h
  split at h
  · rename_i v st0
    split at h
    · rename_i z hz; cases h; exact ⟨v, z, st0, rfl, hz, rfl⟩
    · cases h
  · cases h
theorem am_pushO_inv {v : Option Value} {pc : Nat} {ls : am_L} {st : List Value} {H : am_H} {r : Nat × am_L × List Value × am_H} (h : am_pushO pc ls st H v = some r) : ∃ z, v = some z ∧ r = (pc, ls, z :: st, H) := by
  unfold am_pushO at h
  split at h
  · rename_i z; cases h; exact ⟨z, rfl, rfl⟩
  · cases h
theorem am_f2_inv {f : UInt32 → UInt32 → Option Value} {pc : Nat} {ls : am_L} {st : List Value} {H : am_H} {r : Nat × am_L × List Value × am_H} (h : am_f2 f pc ls st H = some r) : ∃ x y z st0, st = .float y :: .float x :: st0 ∧ f x y = some z ∧ r = (pc, ls, z :: st0, H) := by
  unfold am_f2 at h
  split at h
  · rename_i y x st0; obtain ⟨z, hz, hr⟩ := am_pushO_inv h; exact ⟨x, y, z, st0, rfl, hz, hr⟩
  · cases h
theorem am_d2_inv {f : UInt64 → UInt64 → Option Value} {pc : Nat} {ls : am_L} {st : List Value} {H : am_H} {r : Nat × am_L × List Value × am_H} (h : am_d2 f pc ls st H = some r) : ∃ x y z st0, st = .double y :: .double x :: st0 ∧ f x y = some z ∧ r = (pc, ls, z :: st0, H) := by
  unfold am_d2 at h
  split at h
  · rename_i y x st0; obtain ⟨z, hz, hr⟩ := am_pushO_inv h; exact ⟨x, y, z, st0, rfl, hz, hr⟩
  · cases h
theorem am_tgt_inv {pc : Nat} {off : Int} {ls : am_L} {st : List Value} {H : am_H} {r : Nat × am_L × List Value × am_H} (h : am_tgt pc off ls st H = some r) : 0 ≤ (pc : Int) + off ∧ r = (((pc : Int) + off).toNat, ls, st, H) := by
  unfold am_tgt at h
  split at h
  · cases h; exact ⟨by assumption, rfl⟩
  · cases h
theorem am_if1_inv {k : ClassFile.Cond} {off : Int} {pc : Nat} {ls : am_L} {st : List Value} {H : am_H} {r : Nat × am_L × List Value × am_H} (h : am_if1 k off pc ls st H = some r) : ∃ x st0, st = .int x :: st0 ∧ 0 ≤ (pc : Int) + off ∧ r = (if am_c1 k x = true then ((pc : Int) + off).toNat else pc + 3, ls, st0, H) := by
  unfold am_if1 at h
  split at h
  · rename_i x st0
    split at h
    · cases h; exact ⟨x, st0, rfl, by assumption, rfl⟩
    · cases h
  · cases h
theorem am_if2_inv {k : ClassFile.Cond} {off : Int} {pc : Nat} {ls : am_L} {st : List Value} {H : am_H} {r : Nat × am_L × List Value × am_H} (h : am_if2 k off pc ls st H = some r) : ∃ x y st0, st = .int y :: .int x :: st0 ∧ 0 ≤ (pc : Int) + off ∧ r = (if am_c2 k x y = true then ((pc : Int) + off).toNat else pc + 3, ls, st0, H) := by
  unfold am_if2 at h
  split at h
  · rename_i y x st0
    split at h
    · cases h; exact ⟨x, y, st0, rfl, by assumption, rfl⟩
    · cases h
  · cases h
theorem am_w_iconst (C : am_Cx p R s m args meth c g mi sz0) {pc : Nat} {ls : am_L} {st : List Value} {H : am_H} {r : Nat × am_L × List Value × am_H} {v : Int} (hd : decode mi.2.1 pc = .ok (.iconst v, 1)) (h : am_step g.2.2.2 mi (.iconst v) pc ls st H = some r) (k : am_K p l e R s m args below meth c Q g mi sz0 sl0 r.1 r.2.1 r.2.2.1 r.2.2.2) : am_K p l e R s m args below meth c Q g mi sz0 sl0 pc ls st H := by
  intro lsC Hc locs hl hL hI hS z1 z2
  obtain ⟨hx, hb, hml, hown, hts, hini, hR, hKn, hB⟩ := C
  cases h
  exact lv_iconst hx hb hd rfl (k _ _ _ hl hL hI hS z1 z2)
theorem am_w_bipush (C : am_Cx p R s m args meth c g mi sz0) {pc : Nat} {ls : am_L} {st : List Value} {H : am_H} {r : Nat × am_L × List Value × am_H} {v : Int} (hd : decode mi.2.1 pc = .ok (.bipush v, 2)) (h : am_step g.2.2.2 mi (.bipush v) pc ls st H = some r) (k : am_K p l e R s m args below meth c Q g mi sz0 sl0 r.1 r.2.1 r.2.2.1 r.2.2.2) : am_K p l e R s m args below meth c Q g mi sz0 sl0 pc ls st H := by
  intro lsC Hc locs hl hL hI hS z1 z2
  obtain ⟨hx, hb, hml, hown, hts, hini, hR, hKn, hB⟩ := C
  cases h
  exact lv_bipush hx hb hd rfl (k _ _ _ hl hL hI hS z1 z2)
theorem am_w_sipush (C : am_Cx p R s m args meth c g mi sz0) {pc : Nat} {ls : am_L} {st : List Value} {H : am_H} {r : Nat × am_L × List Value × am_H} {v : Int} (hd : decode mi.2.1 pc = .ok (.sipush v, 3)) (h : am_step g.2.2.2 mi (.sipush v) pc ls st H = some r) (k : am_K p l e R s m args below meth c Q g mi sz0 sl0 r.1 r.2.1 r.2.2.1 r.2.2.2) : am_K p l e R s m args below meth c Q g mi sz0 sl0 pc ls st H := by
  intro lsC Hc locs hl hL hI hS z1 z2
  obtain ⟨hx, hb, hml, hown, hts, hini, hR, hKn, hB⟩ := C
  cases h
  exact lv_sipush hx hb hd rfl (k _ _ _ hl hL hI hS z1 z2)
theorem am_w_null (C : am_Cx p R s m args meth c g mi sz0) {pc : Nat} {ls : am_L} {st : List Value} {H : am_H} {r : Nat × am_L × List Value × am_H}  (hd : decode mi.2.1 pc = .ok (.aconst_null, 1)) (h : am_step g.2.2.2 mi (.aconst_null) pc ls st H = some r) (k : am_K p l e R s m args below meth c Q g mi sz0 sl0 r.1 r.2.1 r.2.2.1 r.2.2.2) : am_K p l e R s m args below meth c Q g mi sz0 sl0 pc ls st H := by
  intro lsC Hc locs hl hL hI hS z1 z2
  obtain ⟨hx, hb, hml, hown, hts, hini, hR, hKn, hB⟩ := C
  cases h
  exact lv_null hx hb hd (k _ _ _ hl hL hI hS z1 z2)
theorem am_w_ldc (C : am_Cx p R s m args meth c g mi sz0) {pc : Nat} {ls : am_L} {st : List Value} {H : am_H} {r : Nat × am_L × List Value × am_H} {cp : Nat} (hd : decode mi.2.1 pc = .ok (.ldc cp, 2)) (h : am_step g.2.2.2 mi (.ldc cp) pc ls st H = some r) (k : am_K p l e R s m args below meth c Q g mi sz0 sl0 r.1 r.2.1 r.2.2.1 r.2.2.2) : am_K p l e R s m args below meth c Q g mi sz0 sl0 pc ls st H := by
  intro lsC Hc locs hl hL hI hS z1 z2
  obtain ⟨hx, hb, hml, hown, hts, hini, hR, hKn, hB⟩ := C
  obtain ⟨z, hz, rfl⟩ := am_pushO_inv h
  cases hq : (am_conL mi.1).lookup cp with
  | none => rw [hq] at hz; cases hz
  | some v =>
    rw [hq] at hz; cases hz
    exact lv_ldc hx hb hown (hts _ (am_conP _ _ (am_lk _ _ _ hq))) hd (k _ _ _ hl hL hI hS z1 z2)
theorem am_w_ldc2 (C : am_Cx p R s m args meth c g mi sz0) {pc : Nat} {ls : am_L} {st : List Value} {H : am_H} {r : Nat × am_L × List Value × am_H} {cp : Nat} (hd : decode mi.2.1 pc = .ok (.ldc2_w cp, 3)) (h : am_step g.2.2.2 mi (.ldc2_w cp) pc ls st H = some r) (k : am_K p l e R s m args below meth c Q g mi sz0 sl0 r.1 r.2.1 r.2.2.1 r.2.2.2) : am_K p l e R s m args below meth c Q g mi sz0 sl0 pc ls st H := by
  intro lsC Hc locs hl hL hI hS z1 z2
  obtain ⟨hx, hb, hml, hown, hts, hini, hR, hKn, hB⟩ := C
  obtain ⟨z, hz, rfl⟩ := am_pushO_inv h
  cases hq : (am_lngL mi.1).lookup cp with
  | none => rw [hq] at hz; cases hz
  | some v =>
    rw [hq] at hz; cases hz
    exact lv_ldc2 hx hb hown (hts _ (am_lngP _ _ (am_lk _ _ _ hq))) hd (k _ _ _ hl hL hI hS z1 z2)
theorem am_w_fconst (C : am_Cx p R s m args meth c g mi sz0) {pc : Nat} {ls : am_L} {st : List Value} {H : am_H} {r : Nat × am_L × List Value × am_H} {f : Fin 3} (hd : decode mi.2.1 pc = .ok (.fconst f, 1)) (h : am_step g.2.2.2 mi (.fconst f) pc ls st H = some r) (k : am_K p l e R s m args below meth c Q g mi sz0 sl0 r.1 r.2.1 r.2.2.1 r.2.2.2) : am_K p l e R s m args below meth c Q g mi sz0 sl0 pc ls st H := by
  intro lsC Hc locs hl hL hI hS z1 z2
  obtain ⟨hx, hb, hml, hown, hts, hini, hR, hKn, hB⟩ := C
  have h : (if f = 0 then am_push (pc + 1) ls st H (.float FP.fconst0) else none) = some r := h
  split at h
  · rename_i q
    subst q
    cases h
    exact lv_fconst0 hx hb hd (k _ _ _ hl hL hI hS z1 z2)
  · cases h
theorem am_w_iload_n (C : am_Cx p R s m args meth c g mi sz0) {pc : Nat} {ls : am_L} {st : List Value} {H : am_H} {r : Nat × am_L × List Value × am_H} {i : Fin 4} (hd : decode mi.2.1 pc = .ok (.iload_n i, 1)) (h : am_step g.2.2.2 mi (.iload_n i) pc ls st H = some r) (k : am_K p l e R s m args below meth c Q g mi sz0 sl0 r.1 r.2.1 r.2.2.1 r.2.2.2) : am_K p l e R s m args below meth c Q g mi sz0 sl0 pc ls st H := by
  intro lsC Hc locs hl hL hI hS z1 z2
  obtain ⟨hx, hb, hml, hown, hts, hini, hR, hKn, hB⟩ := C
  obtain ⟨v, hv, ho, rfl⟩ := am_load_inv h
  obtain ⟨x, rfl⟩ := am_isI_v ho
  exact lv_iload_n hx hb hd rfl (hl.at hv) (k _ _ _ hl hL hI hS z1 z2)
theorem am_w_lload_n (C : am_Cx p R s m args meth c g mi sz0) {pc : Nat} {ls : am_L} {st : List Value} {H : am_H} {r : Nat × am_L × List Value × am_H} {i : Fin 4} (hd : decode mi.2.1 pc = .ok (.lload_n i, 1)) (h : am_step g.2.2.2 mi (.lload_n i) pc ls st H = some r) (k : am_K p l e R s m args below meth c Q g mi sz0 sl0 r.1 r.2.1 r.2.2.1 r.2.2.2) : am_K p l e R s m args below meth c Q g mi sz0 sl0 pc ls st H := by
  intro lsC Hc locs hl hL hI hS z1 z2
  obtain ⟨hx, hb, hml, hown, hts, hini, hR, hKn, hB⟩ := C
  obtain ⟨v, hv, ho, rfl⟩ := am_load_inv h
  obtain ⟨x, rfl⟩ := am_isL_v ho
  exact lv_lload_n hx hb hd rfl (hl.at hv) (k _ _ _ hl hL hI hS z1 z2)
theorem am_w_iload (C : am_Cx p R s m args meth c g mi sz0) {pc : Nat} {ls : am_L} {st : List Value} {H : am_H} {r : Nat × am_L × List Value × am_H} {i : Nat} (hd : decode mi.2.1 pc = .ok (.iload i, 2)) (h : am_step g.2.2.2 mi (.iload i) pc ls st H = some r) (k : am_K p l e R s m args below meth c Q g mi sz0 sl0 r.1 r.2.1 r.2.2.1 r.2.2.2) : am_K p l e R s m args below meth c Q g mi sz0 sl0 pc ls st H := by
  intro lsC Hc locs hl hL hI hS z1 z2
  obtain ⟨hx, hb, hml, hown, hts, hini, hR, hKn, hB⟩ := C
  obtain ⟨v, hv, ho, rfl⟩ := am_load_inv h
  obtain ⟨x, rfl⟩ := am_isI_v ho
  exact lv_iload hx hb hd (hl.at hv) (k _ _ _ hl hL hI hS z1 z2)
theorem am_w_lload (C : am_Cx p R s m args meth c g mi sz0) {pc : Nat} {ls : am_L} {st : List Value} {H : am_H} {r : Nat × am_L × List Value × am_H} {i : Nat} (hd : decode mi.2.1 pc = .ok (.lload i, 2)) (h : am_step g.2.2.2 mi (.lload i) pc ls st H = some r) (k : am_K p l e R s m args below meth c Q g mi sz0 sl0 r.1 r.2.1 r.2.2.1 r.2.2.2) : am_K p l e R s m args below meth c Q g mi sz0 sl0 pc ls st H := by
  intro lsC Hc locs hl hL hI hS z1 z2
  obtain ⟨hx, hb, hml, hown, hts, hini, hR, hKn, hB⟩ := C
  obtain ⟨v, hv, ho, rfl⟩ := am_load_inv h
  obtain ⟨x, rfl⟩ := am_isL_v ho
  exact lv_lload hx hb hd (hl.at hv) (k _ _ _ hl hL hI hS z1 z2)
theorem am_w_dload (C : am_Cx p R s m args meth c g mi sz0) {pc : Nat} {ls : am_L} {st : List Value} {H : am_H} {r : Nat × am_L × List Value × am_H} {i : Nat} (hd : decode mi.2.1 pc = .ok (.dload i, 2)) (h : am_step g.2.2.2 mi (.dload i) pc ls st H = some r) (k : am_K p l e R s m args below meth c Q g mi sz0 sl0 r.1 r.2.1 r.2.2.1 r.2.2.2) : am_K p l e R s m args below meth c Q g mi sz0 sl0 pc ls st H := by
  intro lsC Hc locs hl hL hI hS z1 z2
  obtain ⟨hx, hb, hml, hown, hts, hini, hR, hKn, hB⟩ := C
  obtain ⟨v, hv, ho, rfl⟩ := am_load_inv h
  obtain ⟨x, rfl⟩ := am_isD_v ho
  exact lv_dload hx hb hd (hl.at hv) (k _ _ _ hl hL hI hS z1 z2)
theorem am_w_aload_n (C : am_Cx p R s m args meth c g mi sz0) {pc : Nat} {ls : am_L} {st : List Value} {H : am_H} {r : Nat × am_L × List Value × am_H} {i : Fin 4} (hd : decode mi.2.1 pc = .ok (.aload_n i, 1)) (h : am_step g.2.2.2 mi (.aload_n i) pc ls st H = some r) (k : am_K p l e R s m args below meth c Q g mi sz0 sl0 r.1 r.2.1 r.2.2.1 r.2.2.2) : am_K p l e R s m args below meth c Q g mi sz0 sl0 pc ls st H := by
  intro lsC Hc locs hl hL hI hS z1 z2
  obtain ⟨hx, hb, hml, hown, hts, hini, hR, hKn, hB⟩ := C
  obtain ⟨v, hv, ho, rfl⟩ := am_load_inv h
  rcases am_isA_v ho with ⟨x, rfl⟩ | rfl
  · exact lv_aload_n hx hb hd rfl (hl.at hv) (k _ _ _ hl hL hI hS z1 z2)
  · exact lv_aload_nN hx hb hd rfl (hl.at hv) (k _ _ _ hl hL hI hS z1 z2)
theorem am_w_aload (C : am_Cx p R s m args meth c g mi sz0) {pc : Nat} {ls : am_L} {st : List Value} {H : am_H} {r : Nat × am_L × List Value × am_H} {i : Nat} (hd : decode mi.2.1 pc = .ok (.aload i, 2)) (h : am_step g.2.2.2 mi (.aload i) pc ls st H = some r) (k : am_K p l e R s m args below meth c Q g mi sz0 sl0 r.1 r.2.1 r.2.2.1 r.2.2.2) : am_K p l e R s m args below meth c Q g mi sz0 sl0 pc ls st H := by
  intro lsC Hc locs hl hL hI hS z1 z2
  obtain ⟨hx, hb, hml, hown, hts, hini, hR, hKn, hB⟩ := C
  obtain ⟨v, hv, ho, rfl⟩ := am_load_inv h
  rcases am_isA_v ho with ⟨x, rfl⟩ | rfl
  · exact lv_aload hx hb hd (hl.at hv) (k _ _ _ hl hL hI hS z1 z2)
  · exact lv_aloadN hx hb hd (hl.at hv) (k _ _ _ hl hL hI hS z1 z2)
theorem am_w_istore_n (C : am_Cx p R s m args meth c g mi sz0) {pc : Nat} {ls : am_L} {st : List Value} {H : am_H} {r : Nat × am_L × List Value × am_H} {i : Fin 4} (hd : decode mi.2.1 pc = .ok (.istore_n i, 1)) (h : am_step g.2.2.2 mi (.istore_n i) pc ls st H = some r) (k : am_K p l e R s m args below meth c Q g mi sz0 sl0 r.1 r.2.1 r.2.2.1 r.2.2.2) : am_K p l e R s m args below meth c Q g mi sz0 sl0 pc ls st H := by
  intro lsC Hc locs hl hL hI hS z1 z2
  obtain ⟨hx, hb, hml, hown, hts, hini, hR, hKn, hB⟩ := C
  obtain ⟨v, st0, rfl, ho, hi, rfl⟩ := am_store_inv h
  obtain ⟨x, rfl⟩ := am_isI_v ho
  exact lv_istore_n hx hb hd rfl hl hi rfl (fun ls2 h2 => k _ _ _ (am_Has.set1 h2) (by show (am_set _ _ _).length = _; rw [am_set_len]; exact hL) hI hS z1 z2)
theorem am_w_istore (C : am_Cx p R s m args meth c g mi sz0) {pc : Nat} {ls : am_L} {st : List Value} {H : am_H} {r : Nat × am_L × List Value × am_H} {i : Nat} (hd : decode mi.2.1 pc = .ok (.istore i, 2)) (h : am_step g.2.2.2 mi (.istore i) pc ls st H = some r) (k : am_K p l e R s m args below meth c Q g mi sz0 sl0 r.1 r.2.1 r.2.2.1 r.2.2.2) : am_K p l e R s m args below meth c Q g mi sz0 sl0 pc ls st H := by
  intro lsC Hc locs hl hL hI hS z1 z2
  obtain ⟨hx, hb, hml, hown, hts, hini, hR, hKn, hB⟩ := C
  obtain ⟨v, st0, rfl, ho, hi, rfl⟩ := am_store_inv h
  obtain ⟨x, rfl⟩ := am_isI_v ho
  exact lv_istore hx hb hd hl hi rfl (fun ls2 h2 => k _ _ _ (am_Has.set1 h2) (by show (am_set _ _ _).length = _; rw [am_set_len]; exact hL) hI hS z1 z2)
theorem am_w_lstore_n (C : am_Cx p R s m args meth c g mi sz0) {pc : Nat} {ls : am_L} {st : List Value} {H : am_H} {r : Nat × am_L × List Value × am_H} {i : Fin 4} (hd : decode mi.2.1 pc = .ok (.lstore_n i, 1)) (h : am_step g.2.2.2 mi (.lstore_n i) pc ls st H = some r) (k : am_K p l e R s m args below meth c Q g mi sz0 sl0 r.1 r.2.1 r.2.2.1 r.2.2.2) : am_K p l e R s m args below meth c Q g mi sz0 sl0 pc ls st H := by
  intro lsC Hc locs hl hL hI hS z1 z2
  obtain ⟨hx, hb, hml, hown, hts, hini, hR, hKn, hB⟩ := C
  obtain ⟨v, st0, rfl, ho, hi, rfl⟩ := am_store_inv h
  obtain ⟨x, rfl⟩ := am_isL_v ho
  exact lv_lstore_n hx hb hd rfl hl hi rfl (fun ls2 h2 => k _ _ _ (am_Has.set2 rfl h2) (by show (am_set _ _ _).length = _; rw [am_set_len]; exact hL) hI hS z1 z2)
theorem am_w_lstore (C : am_Cx p R s m args meth c g mi sz0) {pc : Nat} {ls : am_L} {st : List Value} {H : am_H} {r : Nat × am_L × List Value × am_H} {i : Nat} (hd : decode mi.2.1 pc = .ok (.lstore i, 2)) (h : am_step g.2.2.2 mi (.lstore i) pc ls st H = some r) (k : am_K p l e R s m args below meth c Q g mi sz0 sl0 r.1 r.2.1 r.2.2.1 r.2.2.2) : am_K p l e R s m args below meth c Q g mi sz0 sl0 pc ls st H := by
  intro lsC Hc locs hl hL hI hS z1 z2
  obtain ⟨hx, hb, hml, hown, hts, hini, hR, hKn, hB⟩ := C
  obtain ⟨v, st0, rfl, ho, hi, rfl⟩ := am_store_inv h
  obtain ⟨x, rfl⟩ := am_isL_v ho
  exact lv_lstore hx hb hd hl hi rfl (fun ls2 h2 => k _ _ _ (am_Has.set2 rfl h2) (by show (am_set _ _ _).length = _; rw [am_set_len]; exact hL) hI hS z1 z2)
theorem am_w_dstore (C : am_Cx p R s m args meth c g mi sz0) {pc : Nat} {ls : am_L} {st : List Value} {H : am_H} {r : Nat × am_L × List Value × am_H} {i : Nat} (hd : decode mi.2.1 pc = .ok (.dstore i, 2)) (h : am_step g.2.2.2 mi (.dstore i) pc ls st H = some r) (k : am_K p l e R s m args below meth c Q g mi sz0 sl0 r.1 r.2.1 r.2.2.1 r.2.2.2) : am_K p l e R s m args below meth c Q g mi sz0 sl0 pc ls st H := by
  intro lsC Hc locs hl hL hI hS z1 z2
  obtain ⟨hx, hb, hml, hown, hts, hini, hR, hKn, hB⟩ := C
  obtain ⟨v, st0, rfl, ho, hi, rfl⟩ := am_store_inv h
  obtain ⟨x, rfl⟩ := am_isD_v ho
  exact lv_dstore hx hb hd hl hi rfl (fun ls2 h2 => k _ _ _ (am_Has.set2 rfl h2) (by show (am_set _ _ _).length = _; rw [am_set_len]; exact hL) hI hS z1 z2)
theorem am_w_astore_n (C : am_Cx p R s m args meth c g mi sz0) {pc : Nat} {ls : am_L} {st : List Value} {H : am_H} {r : Nat × am_L × List Value × am_H} {i : Fin 4} (hd : decode mi.2.1 pc = .ok (.astore_n i, 1)) (h : am_step g.2.2.2 mi (.astore_n i) pc ls st H = some r) (k : am_K p l e R s m args below meth c Q g mi sz0 sl0 r.1 r.2.1 r.2.2.1 r.2.2.2) : am_K p l e R s m args below meth c Q g mi sz0 sl0 pc ls st H := by
  intro lsC Hc locs hl hL hI hS z1 z2
  obtain ⟨hx, hb, hml, hown, hts, hini, hR, hKn, hB⟩ := C
  obtain ⟨v, st0, rfl, ho, hi, rfl⟩ := am_store_inv h
  rcases am_isA_v ho with ⟨x, rfl⟩ | rfl
  · exact lv_astore_n hx hb hd rfl hl hi rfl (fun ls2 h2 => k _ _ _ (am_Has.set1 h2) (by show (am_set _ _ _).length = _; rw [am_set_len]; exact hL) hI hS z1 z2)
  · exact lv_astore_nN hx hb hd rfl hl hi rfl (fun ls2 h2 => k _ _ _ (am_Has.set1 h2) (by show (am_set _ _ _).length = _; rw [am_set_len]; exact hL) hI hS z1 z2)
theorem am_w_astore (C : am_Cx p R s m args meth c g mi sz0) {pc : Nat} {ls : am_L} {st : List Value} {H : am_H} {r : Nat × am_L × List Value × am_H} {i : Nat} (hd : decode mi.2.1 pc = .ok (.astore i, 2)) (h : am_step g.2.2.2 mi (.astore i) pc ls st H = some r) (k : am_K p l e R s m args below meth c Q g mi sz0 sl0 r.1 r.2.1 r.2.2.1 r.2.2.2) : am_K p l e R s m args below meth c Q g mi sz0 sl0 pc ls st H := by
  intro lsC Hc locs hl hL hI hS z1 z2
  obtain ⟨hx, hb, hml, hown, hts, hini, hR, hKn, hB⟩ := C
  obtain ⟨v, st0, rfl, ho, hi, rfl⟩ := am_store_inv h
  rcases am_isA_v ho with ⟨x, rfl⟩ | rfl
  · exact lv_astore hx hb hd hl hi rfl (fun ls2 h2 => k _ _ _ (am_Has.set1 h2) (by show (am_set _ _ _).length = _; rw [am_set_len]; exact hL) hI hS z1 z2)
  · exact lv_astoreN hx hb hd hl hi rfl (fun ls2 h2 => k _ _ _ (am_Has.set1 h2) (by show (am_set _ _ _).length = _; rw [am_set_len]; exact hL) hI hS z1 z2)
theorem am_w_iinc (C : am_Cx p R s m args meth c g mi sz0) {pc : Nat} {ls : am_L} {st : List Value} {H : am_H} {r : Nat × am_L × List Value × am_H} {i : Nat} {v : Int} (hd : decode mi.2.1 pc = .ok (.iinc i v, 3)) (h : am_step g.2.2.2 mi (.iinc i v) pc ls st H = some r) (k : am_K p l e R s m args below meth c Q g mi sz0 sl0 r.1 r.2.1 r.2.2.1 r.2.2.2) : am_K p l e R s m args below meth c Q g mi sz0 sl0 pc ls st H := by
  intro lsC Hc locs hl hL hI hS z1 z2
  obtain ⟨hx, hb, hml, hown, hts, hini, hR, hKn, hB⟩ := C
  obtain ⟨x, hv, rfl⟩ := am_iinc_inv h
  obtain ⟨q, hq⟩ := List.getElem?_of_mem (am_al_mem (q := (i, .int x)) |>.mpr hv)
  exact lv_iinc hx hb hd hl hq rfl (List.getElem?_eq_some_iff.mp hv).1 rfl (fun ls2 h2 => k _ _ _ (am_Has.set1 h2) (by show (am_set _ _ _).length = _; rw [am_set_len]; exact hL) hI hS z1 z2)
theorem am_w_iadd (C : am_Cx p R s m args meth c g mi sz0) {pc : Nat} {ls : am_L} {st : List Value} {H : am_H} {r : Nat × am_L × List Value × am_H}  (hd : decode mi.2.1 pc = .ok (.iadd, 1)) (h : am_step g.2.2.2 mi (.iadd) pc ls st H = some r) (k : am_K p l e R s m args below meth c Q g mi sz0 sl0 r.1 r.2.1 r.2.2.1 r.2.2.2) : am_K p l e R s m args below meth c Q g mi sz0 sl0 pc ls st H := by
  intro lsC Hc locs hl hL hI hS z1 z2
  obtain ⟨hx, hb, hml, hown, hts, hini, hR, hKn, hB⟩ := C
  simp only [am_step] at h
  obtain ⟨x, y, z, st0, rfl, hz, rfl⟩ := am_i2_inv h
  cases hz
  exact lv_iadd hx hb hd (k _ _ _ hl hL hI hS z1 z2)
theorem am_w_isub (C : am_Cx p R s m args meth c g mi sz0) {pc : Nat} {ls : am_L} {st : List Value} {H : am_H} {r : Nat × am_L × List Value × am_H}  (hd : decode mi.2.1 pc = .ok (.isub, 1)) (h : am_step g.2.2.2 mi (.isub) pc ls st H = some r) (k : am_K p l e R s m args below meth c Q g mi sz0 sl0 r.1 r.2.1 r.2.2.1 r.2.2.2) : am_K p l e R s m args below meth c Q g mi sz0 sl0 pc ls st H := by
  intro lsC Hc locs hl hL hI hS z1 z2
  obtain ⟨hx, hb, hml, hown, hts, hini, hR, hKn, hB⟩ := C
  simp only [am_step] at h
  obtain ⟨x, y, z, st0, rfl, hz, rfl⟩ := am_i2_inv h
  cases hz
  exact lv_isub hx hb hd (k _ _ _ hl hL hI hS z1 z2)
theorem am_w_imul (C : am_Cx p R s m args meth c g mi sz0) {pc : Nat} {ls : am_L} {st : List Value} {H : am_H} {r : Nat × am_L × List Value × am_H}  (hd : decode mi.2.1 pc = .ok (.imul, 1)) (h : am_step g.2.2.2 mi (.imul) pc ls st H = some r) (k : am_K p l e R s m args below meth c Q g mi sz0 sl0 r.1 r.2.1 r.2.2.1 r.2.2.2) : am_K p l e R s m args below meth c Q g mi sz0 sl0 pc ls st H := by
  intro lsC Hc locs hl hL hI hS z1 z2
  obtain ⟨hx, hb, hml, hown, hts, hini, hR, hKn, hB⟩ := C
  simp only [am_step] at h
  obtain ⟨x, y, z, st0, rfl, hz, rfl⟩ := am_i2_inv h
  cases hz
  exact lv_imul hx hb hd (k _ _ _ hl hL hI hS z1 z2)
theorem am_w_iand (C : am_Cx p R s m args meth c g mi sz0) {pc : Nat} {ls : am_L} {st : List Value} {H : am_H} {r : Nat × am_L × List Value × am_H}  (hd : decode mi.2.1 pc = .ok (.iand, 1)) (h : am_step g.2.2.2 mi (.iand) pc ls st H = some r) (k : am_K p l e R s m args below meth c Q g mi sz0 sl0 r.1 r.2.1 r.2.2.1 r.2.2.2) : am_K p l e R s m args below meth c Q g mi sz0 sl0 pc ls st H := by
  intro lsC Hc locs hl hL hI hS z1 z2
  obtain ⟨hx, hb, hml, hown, hts, hini, hR, hKn, hB⟩ := C
  simp only [am_step] at h
  obtain ⟨x, y, z, st0, rfl, hz, rfl⟩ := am_i2_inv h
  cases hz
  exact lv_iand hx hb hd (k _ _ _ hl hL hI hS z1 z2)
theorem am_w_ior (C : am_Cx p R s m args meth c g mi sz0) {pc : Nat} {ls : am_L} {st : List Value} {H : am_H} {r : Nat × am_L × List Value × am_H}  (hd : decode mi.2.1 pc = .ok (.ior, 1)) (h : am_step g.2.2.2 mi (.ior) pc ls st H = some r) (k : am_K p l e R s m args below meth c Q g mi sz0 sl0 r.1 r.2.1 r.2.2.1 r.2.2.2) : am_K p l e R s m args below meth c Q g mi sz0 sl0 pc ls st H := by
  intro lsC Hc locs hl hL hI hS z1 z2
  obtain ⟨hx, hb, hml, hown, hts, hini, hR, hKn, hB⟩ := C
  simp only [am_step] at h
  obtain ⟨x, y, z, st0, rfl, hz, rfl⟩ := am_i2_inv h
  cases hz
  exact lv_ior hx hb hd (k _ _ _ hl hL hI hS z1 z2)
theorem am_w_ixor (C : am_Cx p R s m args meth c g mi sz0) {pc : Nat} {ls : am_L} {st : List Value} {H : am_H} {r : Nat × am_L × List Value × am_H}  (hd : decode mi.2.1 pc = .ok (.ixor, 1)) (h : am_step g.2.2.2 mi (.ixor) pc ls st H = some r) (k : am_K p l e R s m args below meth c Q g mi sz0 sl0 r.1 r.2.1 r.2.2.1 r.2.2.2) : am_K p l e R s m args below meth c Q g mi sz0 sl0 pc ls st H := by
  intro lsC Hc locs hl hL hI hS z1 z2
  obtain ⟨hx, hb, hml, hown, hts, hini, hR, hKn, hB⟩ := C
  simp only [am_step] at h
  obtain ⟨x, y, z, st0, rfl, hz, rfl⟩ := am_i2_inv h
  cases hz
  exact lv_ixor hx hb hd (k _ _ _ hl hL hI hS z1 z2)
theorem am_w_ishl (C : am_Cx p R s m args meth c g mi sz0) {pc : Nat} {ls : am_L} {st : List Value} {H : am_H} {r : Nat × am_L × List Value × am_H}  (hd : decode mi.2.1 pc = .ok (.ishl, 1)) (h : am_step g.2.2.2 mi (.ishl) pc ls st H = some r) (k : am_K p l e R s m args below meth c Q g mi sz0 sl0 r.1 r.2.1 r.2.2.1 r.2.2.2) : am_K p l e R s m args below meth c Q g mi sz0 sl0 pc ls st H := by
  intro lsC Hc locs hl hL hI hS z1 z2
  obtain ⟨hx, hb, hml, hown, hts, hini, hR, hKn, hB⟩ := C
  simp only [am_step] at h
  obtain ⟨x, y, z, st0, rfl, hz, rfl⟩ := am_i2_inv h
  cases hz
  exact lv_ishl hx hb hd (k _ _ _ hl hL hI hS z1 z2)
theorem am_w_ishr (C : am_Cx p R s m args meth c g mi sz0) {pc : Nat} {ls : am_L} {st : List Value} {H : am_H} {r : Nat × am_L × List Value × am_H}  (hd : decode mi.2.1 pc = .ok (.ishr, 1)) (h : am_step g.2.2.2 mi (.ishr) pc ls st H = some r) (k : am_K p l e R s m args below meth c Q g mi sz0 sl0 r.1 r.2.1 r.2.2.1 r.2.2.2) : am_K p l e R s m args below meth c Q g mi sz0 sl0 pc ls st H := by
  intro lsC Hc locs hl hL hI hS z1 z2
  obtain ⟨hx, hb, hml, hown, hts, hini, hR, hKn, hB⟩ := C
  simp only [am_step] at h
  obtain ⟨x, y, z, st0, rfl, hz, rfl⟩ := am_i2_inv h
  cases hz
  exact lv_ishr hx hb hd (k _ _ _ hl hL hI hS z1 z2)
theorem am_w_idiv (C : am_Cx p R s m args meth c g mi sz0) {pc : Nat} {ls : am_L} {st : List Value} {H : am_H} {r : Nat × am_L × List Value × am_H}  (hd : decode mi.2.1 pc = .ok (.idiv, 1)) (h : am_step g.2.2.2 mi (.idiv) pc ls st H = some r) (k : am_K p l e R s m args below meth c Q g mi sz0 sl0 r.1 r.2.1 r.2.2.1 r.2.2.2) : am_K p l e R s m args below meth c Q g mi sz0 sl0 pc ls st H := by
  intro lsC Hc locs hl hL hI hS z1 z2
  obtain ⟨hx, hb, hml, hown, hts, hini, hR, hKn, hB⟩ := C
  simp only [am_step] at h
  obtain ⟨x, y, z, st0, rfl, hz, rfl⟩ := am_i2_inv h
  split at hz
  · cases hz
  · cases hz
    exact lv_idiv hx hb hd (by assumption) (k _ _ _ hl hL hI hS z1 z2)
theorem am_w_irem (C : am_Cx p R s m args meth c g mi sz0) {pc : Nat} {ls : am_L} {st : List Value} {H : am_H} {r : Nat × am_L × List Value × am_H}  (hd : decode mi.2.1 pc = .ok (.irem, 1)) (h : am_step g.2.2.2 mi (.irem) pc ls st H = some r) (k : am_K p l e R s m args below meth c Q g mi sz0 sl0 r.1 r.2.1 r.2.2.1 r.2.2.2) : am_K p l e R s m args below meth c Q g mi sz0 sl0 pc ls st H := by
  intro lsC Hc locs hl hL hI hS z1 z2
  obtain ⟨hx, hb, hml, hown, hts, hini, hR, hKn, hB⟩ := C
  simp only [am_step] at h
  obtain ⟨x, y, z, st0, rfl, hz, rfl⟩ := am_i2_inv h
  split at hz
  · cases hz
  · cases hz
    exact lv_irem hx hb hd (by assumption) (k _ _ _ hl hL hI hS z1 z2)
theorem am_w_ladd (C : am_Cx p R s m args meth c g mi sz0) {pc : Nat} {ls : am_L} {st : List Value} {H : am_H} {r : Nat × am_L × List Value × am_H}  (hd : decode mi.2.1 pc = .ok (.ladd, 1)) (h : am_step g.2.2.2 mi (.ladd) pc ls st H = some r) (k : am_K p l e R s m args below meth c Q g mi sz0 sl0 r.1 r.2.1 r.2.2.1 r.2.2.2) : am_K p l e R s m args below meth c Q g mi sz0 sl0 pc ls st H := by
  intro lsC Hc locs hl hL hI hS z1 z2
  obtain ⟨hx, hb, hml, hown, hts, hini, hR, hKn, hB⟩ := C
  simp only [am_step] at h
  obtain ⟨x, y, z, st0, rfl, hz, rfl⟩ := am_l2_inv h
  cases hz
  exact lv_ladd hx hb hd (k _ _ _ hl hL hI hS z1 z2)
theorem am_w_lmul (C : am_Cx p R s m args meth c g mi sz0) {pc : Nat} {ls : am_L} {st : List Value} {H : am_H} {r : Nat × am_L × List Value × am_H}  (hd : decode mi.2.1 pc = .ok (.lmul, 1)) (h : am_step g.2.2.2 mi (.lmul) pc ls st H = some r) (k : am_K p l e R s m args below meth c Q g mi sz0 sl0 r.1 r.2.1 r.2.2.1 r.2.2.2) : am_K p l e R s m args below meth c Q g mi sz0 sl0 pc ls st H := by
  intro lsC Hc locs hl hL hI hS z1 z2
  obtain ⟨hx, hb, hml, hown, hts, hini, hR, hKn, hB⟩ := C
  simp only [am_step] at h
  obtain ⟨x, y, z, st0, rfl, hz, rfl⟩ := am_l2_inv h
  cases hz
  exact lv_lmul hx hb hd (k _ _ _ hl hL hI hS z1 z2)
theorem am_w_lcmp (C : am_Cx p R s m args meth c g mi sz0) {pc : Nat} {ls : am_L} {st : List Value} {H : am_H} {r : Nat × am_L × List Value × am_H}  (hd : decode mi.2.1 pc = .ok (.lcmp, 1)) (h : am_step g.2.2.2 mi (.lcmp) pc ls st H = some r) (k : am_K p l e R s m args below meth c Q g mi sz0 sl0 r.1 r.2.1 r.2.2.1 r.2.2.2) : am_K p l e R s m args below meth c Q g mi sz0 sl0 pc ls st H := by
  intro lsC Hc locs hl hL hI hS z1 z2
  obtain ⟨hx, hb, hml, hown, hts, hini, hR, hKn, hB⟩ := C
  simp only [am_step] at h
  obtain ⟨x, y, z, st0, rfl, hz, rfl⟩ := am_l2_inv h
  cases hz
  exact W.lcmp hx hb hd (k _ _ _ hl hL hI hS z1 z2)
theorem am_w_ldiv (C : am_Cx p R s m args meth c g mi sz0) {pc : Nat} {ls : am_L} {st : List Value} {H : am_H} {r : Nat × am_L × List Value × am_H}  (hd : decode mi.2.1 pc = .ok (.ldiv, 1)) (h : am_step g.2.2.2 mi (.ldiv) pc ls st H = some r) (k : am_K p l e R s m args below meth c Q g mi sz0 sl0 r.1 r.2.1 r.2.2.1 r.2.2.2) : am_K p l e R s m args below meth c Q g mi sz0 sl0 pc ls st H := by
  intro lsC Hc locs hl hL hI hS z1 z2
  obtain ⟨hx, hb, hml, hown, hts, hini, hR, hKn, hB⟩ := C
  simp only [am_step] at h
  obtain ⟨x, y, z, st0, rfl, hz, rfl⟩ := am_l2_inv h
  split at hz
  · cases hz
  · cases hz
    exact lv_ldiv hx hb hd (by assumption) (k _ _ _ hl hL hI hS z1 z2)
theorem am_w_ineg (C : am_Cx p R s m args meth c g mi sz0) {pc : Nat} {ls : am_L} {st : List Value} {H : am_H} {r : Nat × am_L × List Value × am_H}  (hd : decode mi.2.1 pc = .ok (.ineg, 1)) (h : am_step g.2.2.2 mi (.ineg) pc ls st H = some r) (k : am_K p l e R s m args below meth c Q g mi sz0 sl0 r.1 r.2.1 r.2.2.1 r.2.2.2) : am_K p l e R s m args below meth c Q g mi sz0 sl0 pc ls st H := by
  intro lsC Hc locs hl hL hI hS z1 z2
  obtain ⟨hx, hb, hml, hown, hts, hini, hR, hKn, hB⟩ := C
  simp only [am_step] at h
  obtain ⟨v, z, st0, rfl, hz, rfl⟩ := am_u1_inv h
  cases v with
  | int x => cases hz; exact lv_ineg hx hb hd (k _ _ _ hl hL hI hS z1 z2)
  | _ => cases hz
theorem am_w_i2l (C : am_Cx p R s m args meth c g mi sz0) {pc : Nat} {ls : am_L} {st : List Value} {H : am_H} {r : Nat × am_L × List Value × am_H}  (hd : decode mi.2.1 pc = .ok (.i2l, 1)) (h : am_step g.2.2.2 mi (.i2l) pc ls st H = some r) (k : am_K p l e R s m args below meth c Q g mi sz0 sl0 r.1 r.2.1 r.2.2.1 r.2.2.2) : am_K p l e R s m args below meth c Q g mi sz0 sl0 pc ls st H := by
  intro lsC Hc locs hl hL hI hS z1 z2
  obtain ⟨hx, hb, hml, hown, hts, hini, hR, hKn, hB⟩ := C
  simp only [am_step] at h
  obtain ⟨v, z, st0, rfl, hz, rfl⟩ := am_u1_inv h
  cases v with
  | int x => cases hz; exact lv_i2l hx hb hd rfl (k _ _ _ hl hL hI hS z1 z2)
  | _ => cases hz
theorem am_w_l2i (C : am_Cx p R s m args meth c g mi sz0) {pc : Nat} {ls : am_L} {st : List Value} {H : am_H} {r : Nat × am_L × List Value × am_H}  (hd : decode mi.2.1 pc = .ok (.l2i, 1)) (h : am_step g.2.2.2 mi (.l2i) pc ls st H = some r) (k : am_K p l e R s m args below meth c Q g mi sz0 sl0 r.1 r.2.1 r.2.2.1 r.2.2.2) : am_K p l e R s m args below meth c Q g mi sz0 sl0 pc ls st H := by
  intro lsC Hc locs hl hL hI hS z1 z2
  obtain ⟨hx, hb, hml, hown, hts, hini, hR, hKn, hB⟩ := C
  simp only [am_step] at h
  obtain ⟨v, z, st0, rfl, hz, rfl⟩ := am_u1_inv h
  cases v with
  | long x => cases hz; exact lv_l2i hx hb hd rfl (k _ _ _ hl hL hI hS z1 z2)
  | _ => cases hz
theorem am_w_l2f (C : am_Cx p R s m args meth c g mi sz0) {pc : Nat} {ls : am_L} {st : List Value} {H : am_H} {r : Nat × am_L × List Value × am_H}  (hd : decode mi.2.1 pc = .ok (.l2f, 1)) (h : am_step g.2.2.2 mi (.l2f) pc ls st H = some r) (k : am_K p l e R s m args below meth c Q g mi sz0 sl0 r.1 r.2.1 r.2.2.1 r.2.2.2) : am_K p l e R s m args below meth c Q g mi sz0 sl0 pc ls st H := by
  intro lsC Hc locs hl hL hI hS z1 z2
  obtain ⟨hx, hb, hml, hown, hts, hini, hR, hKn, hB⟩ := C
  simp only [am_step] at h
  obtain ⟨v, z, st0, rfl, hz, rfl⟩ := am_u1_inv h
  cases v with
  | long x => cases hz; exact lv_l2f hx hb hd (k _ _ _ hl hL hI hS z1 z2)
  | _ => cases hz
theorem am_w_i2f (C : am_Cx p R s m args meth c g mi sz0) {pc : Nat} {ls : am_L} {st : List Value} {H : am_H} {r : Nat × am_L × List Value × am_H}  (hd : decode mi.2.1 pc = .ok (.i2f, 1)) (h : am_step g.2.2.2 mi (.i2f) pc ls st H = some r) (k : am_K p l e R s m args below meth c Q g mi sz0 sl0 r.1 r.2.1 r.2.2.1 r.2.2.2) : am_K p l e R s m args below meth c Q g mi sz0 sl0 pc ls st H := by
  intro lsC Hc locs hl hL hI hS z1 z2
  obtain ⟨hx, hb, hml, hown, hts, hini, hR, hKn, hB⟩ := C
  simp only [am_step] at h
  obtain ⟨v, z, st0, rfl, hz, rfl⟩ := am_u1_inv h
  cases v with
  | int x => cases hz; exact lv_i2f hx hb hd (k _ _ _ hl hL hI hS z1 z2)
  | _ => cases hz
theorem am_w_f2d (C : am_Cx p R s m args meth c g mi sz0) {pc : Nat} {ls : am_L} {st : List Value} {H : am_H} {r : Nat × am_L × List Value × am_H}  (hd : decode mi.2.1 pc = .ok (.f2d, 1)) (h : am_step g.2.2.2 mi (.f2d) pc ls st H = some r) (k : am_K p l e R s m args below meth c Q g mi sz0 sl0 r.1 r.2.1 r.2.2.1 r.2.2.2) : am_K p l e R s m args below meth c Q g mi sz0 sl0 pc ls st H := by
  intro lsC Hc locs hl hL hI hS z1 z2
  obtain ⟨hx, hb, hml, hown, hts, hini, hR, hKn, hB⟩ := C
  simp only [am_step] at h
  obtain ⟨v, z, st0, rfl, hz, rfl⟩ := am_u1_inv h
  cases v with
  | float x =>
    have hz : am_n64 (FP.f2d x) = some z := hz
    unfold am_n64 at hz
    split at hz
    · cases hz; exact lv_f2d hx hb hd (by assumption) (k _ _ _ hl hL hI hS z1 z2)
    · cases hz
  | _ => cases hz
theorem am_w_fdiv (C : am_Cx p R s m args meth c g mi sz0) {pc : Nat} {ls : am_L} {st : List Value} {H : am_H} {r : Nat × am_L × List Value × am_H}  (hd : decode mi.2.1 pc = .ok (.fdiv, 1)) (h : am_step g.2.2.2 mi (.fdiv) pc ls st H = some r) (k : am_K p l e R s m args below meth c Q g mi sz0 sl0 r.1 r.2.1 r.2.2.1 r.2.2.2) : am_K p l e R s m args below meth c Q g mi sz0 sl0 pc ls st H := by
  intro lsC Hc locs hl hL hI hS z1 z2
  obtain ⟨hx, hb, hml, hown, hts, hini, hR, hKn, hB⟩ := C
  simp only [am_step] at h
  obtain ⟨x, y, z, st0, rfl, hz, rfl⟩ := am_f2_inv h
  have hz : am_n32 (FP.fdiv x y) = some z := hz
  unfold am_n32 at hz
  split at hz
  · cases hz; exact lv_fdiv hx hb hd (by assumption) (k _ _ _ hl hL hI hS z1 z2)
  · cases hz
theorem am_w_dcmp (C : am_Cx p R s m args meth c g mi sz0) {pc : Nat} {ls : am_L} {st : List Value} {H : am_H} {r : Nat × am_L × List Value × am_H} {op : CmpOp} (hd : decode mi.2.1 pc = .ok (.dcmp op, 1)) (h : am_step g.2.2.2 mi (.dcmp op) pc ls st H = some r) (k : am_K p l e R s m args below meth c Q g mi sz0 sl0 r.1 r.2.1 r.2.2.1 r.2.2.2) : am_K p l e R s m args below meth c Q g mi sz0 sl0 pc ls st H := by
  intro lsC Hc locs hl hL hI hS z1 z2
  obtain ⟨hx, hb, hml, hown, hts, hini, hR, hKn, hB⟩ := C
  simp only [am_step] at h
  obtain ⟨x, y, z, st0, rfl, hz, rfl⟩ := am_d2_inv h
  cases hz
  exact lv_dcmp hx hb hd (k _ _ _ hl hL hI hS z1 z2)
theorem am_w_dup (C : am_Cx p R s m args meth c g mi sz0) {pc : Nat} {ls : am_L} {st : List Value} {H : am_H} {r : Nat × am_L × List Value × am_H}  (hd : decode mi.2.1 pc = .ok (.dup, 1)) (h : am_step g.2.2.2 mi (.dup) pc ls st H = some r) (k : am_K p l e R s m args below meth c Q g mi sz0 sl0 r.1 r.2.1 r.2.2.1 r.2.2.2) : am_K p l e R s m args below meth c Q g mi sz0 sl0 pc ls st H := by
  intro lsC Hc locs hl hL hI hS z1 z2
  obtain ⟨hx, hb, hml, hown, hts, hini, hR, hKn, hB⟩ := C
  have h : am_dup (pc + 1) ls st H = some r := h
  unfold am_dup at h
  split at h
  · split at h
    · cases h; exact lv_dup hx hb hd (by assumption) (k _ _ _ hl hL hI hS z1 z2)
    · cases h
  · cases h
theorem am_w_dup2 (C : am_Cx p R s m args meth c g mi sz0) {pc : Nat} {ls : am_L} {st : List Value} {H : am_H} {r : Nat × am_L × List Value × am_H}  (hd : decode mi.2.1 pc = .ok (.dup2, 1)) (h : am_step g.2.2.2 mi (.dup2) pc ls st H = some r) (k : am_K p l e R s m args below meth c Q g mi sz0 sl0 r.1 r.2.1 r.2.2.1 r.2.2.2) : am_K p l e R s m args below meth c Q g mi sz0 sl0 pc ls st H := by
  intro lsC Hc locs hl hL hI hS z1 z2
  obtain ⟨hx, hb, hml, hown, hts, hini, hR, hKn, hB⟩ := C
  have h : am_dup2 (pc + 1) ls st H = some r := h
  unfold am_dup2 at h
  split at h
  · split at h
    · rename_i q; cases h; exact lv_dup2_11 hx hb hd q.1 q.2 (k _ _ _ hl hL hI hS z1 z2)
    · cases h
  · cases h
theorem am_w_ifCond (C : am_Cx p R s m args meth c g mi sz0) {pc : Nat} {ls : am_L} {st : List Value} {H : am_H} {r : Nat × am_L × List Value × am_H} {q : ClassFile.Cond} {off : Int} (hd : decode mi.2.1 pc = .ok (.ifCond q off, 3)) (h : am_step g.2.2.2 mi (.ifCond q off) pc ls st H = some r) (k : am_K p l e R s m args below meth c Q g mi sz0 sl0 r.1 r.2.1 r.2.2.1 r.2.2.2) : am_K p l e R s m args below meth c Q g mi sz0 sl0 pc ls st H := by
  intro lsC Hc locs hl hL hI hS z1 z2
  obtain ⟨hx, hb, hml, hown, hts, hini, hR, hKn, hB⟩ := C
  obtain ⟨x, st0, rfl, ho, rfl⟩ := am_if1_inv h
  cases q with
  | eq =>
    by_cases a : am_c1 .eq x = true
    · have k := k lsC Hc locs hl hL hI hS z1 z2
      dsimp only at k; rw [if_pos a] at k
      exact lv_if_eq (tgt := ((pc : Int) + off).toNat) hx hb hd (by omega) (fun _ => k) (fun c1 => absurd (of_decide_eq_true a) c1)
    · have k := k lsC Hc locs hl hL hI hS z1 z2
      dsimp only at k; rw [if_neg a] at k
      exact lv_if_eq (tgt := ((pc : Int) + off).toNat) hx hb hd (by omega) (fun c1 => absurd (decide_eq_true c1) a) (fun _ => k)
  | ne =>
    by_cases a : am_c1 .ne x = true
    · have k := k lsC Hc locs hl hL hI hS z1 z2
      dsimp only at k; rw [if_pos a] at k
      exact lv_if_ne (tgt := ((pc : Int) + off).toNat) hx hb hd (by omega) (fun _ => k) (fun c1 => absurd c1 (of_decide_eq_true a))
    · have k := k lsC Hc locs hl hL hI hS z1 z2
      dsimp only at k; rw [if_neg a] at k
      exact lv_if_ne (tgt := ((pc : Int) + off).toNat) hx hb hd (by omega) (fun c1 => absurd (decide_eq_true c1) a) (fun _ => k)
  | lt =>
    by_cases a : am_c1 .lt x = true
    · have k := k lsC Hc locs hl hL hI hS z1 z2
      dsimp only at k; rw [if_pos a] at k
      exact lv_if_lt (tgt := ((pc : Int) + off).toNat) hx hb hd (by omega) (fun _ => k) (fun c1 => absurd (of_decide_eq_true a) c1)
    · have k := k lsC Hc locs hl hL hI hS z1 z2
      dsimp only at k; rw [if_neg a] at k
      exact lv_if_lt (tgt := ((pc : Int) + off).toNat) hx hb hd (by omega) (fun c1 => absurd (decide_eq_true c1) a) (fun _ => k)
  | ge =>
    by_cases a : am_c1 .ge x = true
    · have k := k lsC Hc locs hl hL hI hS z1 z2
      dsimp only at k; rw [if_pos a] at k
      exact lv_if_ge (tgt := ((pc : Int) + off).toNat) hx hb hd (by omega) (fun _ => k) (fun c1 => absurd (of_decide_eq_true a) c1)
    · have k := k lsC Hc locs hl hL hI hS z1 z2
      dsimp only at k; rw [if_neg a] at k
      exact lv_if_ge (tgt := ((pc : Int) + off).toNat) hx hb hd (by omega) (fun c1 => absurd (decide_eq_true c1) a) (fun _ => k)
  | gt =>
    by_cases a : am_c1 .gt x = true
    · have k := k lsC Hc locs hl hL hI hS z1 z2
      dsimp only at k; rw [if_pos a] at k
      exact lv_if_gt (tgt := ((pc : Int) + off).toNat) hx hb hd (by omega) (fun _ => k) (fun c1 => absurd (of_decide_eq_true a) c1)
    · have k := k lsC Hc locs hl hL hI hS z1 z2
      dsimp only at k; rw [if_neg a] at k
      exact lv_if_gt (tgt := ((pc : Int) + off).toNat) hx hb hd (by omega) (fun c1 => absurd (decide_eq_true c1) a) (fun _ => k)
  | le =>
    by_cases a : am_c1 .le x = true
    · have k := k lsC Hc locs hl hL hI hS z1 z2
      dsimp only at k; rw [if_pos a] at k
      exact lv_if_le (tgt := ((pc : Int) + off).toNat) hx hb hd (by omega) (fun _ => k) (fun c1 => absurd (of_decide_eq_true a) c1)
    · have k := k lsC Hc locs hl hL hI hS z1 z2
      dsimp only at k; rw [if_neg a] at k
      exact lv_if_le (tgt := ((pc : Int) + off).toNat) hx hb hd (by omega) (fun c1 => absurd (decide_eq_true c1) a) (fun _ => k)
theorem am_w_icmp (C : am_Cx p R s m args meth c g mi sz0) {pc : Nat} {ls : am_L} {st : List Value} {H : am_H} {r : Nat × am_L × List Value × am_H} {q : ClassFile.Cond} {off : Int} (hd : decode mi.2.1 pc = .ok (.if_icmp q off, 3)) (h : am_step g.2.2.2 mi (.if_icmp q off) pc ls st H = some r) (k : am_K p l e R s m args below meth c Q g mi sz0 sl0 r.1 r.2.1 r.2.2.1 r.2.2.2) : am_K p l e R s m args below meth c Q g mi sz0 sl0 pc ls st H := by
  intro lsC Hc locs hl hL hI hS z1 z2
  obtain ⟨hx, hb, hml, hown, hts, hini, hR, hKn, hB⟩ := C
  obtain ⟨x, y, st0, rfl, ho, rfl⟩ := am_if2_inv h
  cases q with
  | eq =>
    by_cases a : am_c2 .eq x y = true
    · have k := k lsC Hc locs hl hL hI hS z1 z2
      dsimp only at k; rw [if_pos a] at k
      exact lv_icmp_eq (tgt := ((pc : Int) + off).toNat) hx hb hd (by omega) (fun _ => k) (fun c1 => absurd (of_decide_eq_true a) c1)
    · have k := k lsC Hc locs hl hL hI hS z1 z2
      dsimp only at k; rw [if_neg a] at k
      exact lv_icmp_eq (tgt := ((pc : Int) + off).toNat) hx hb hd (by omega) (fun c1 => absurd (decide_eq_true c1) a) (fun _ => k)
  | ne =>
    by_cases a : am_c2 .ne x y = true
    · have k := k lsC Hc locs hl hL hI hS z1 z2
      dsimp only at k; rw [if_pos a] at k
      exact lv_icmp_ne (tgt := ((pc : Int) + off).toNat) hx hb hd (by omega) (fun _ => k) (fun c1 => absurd c1 (of_decide_eq_true a))
    · have k := k lsC Hc locs hl hL hI hS z1 z2
      dsimp only at k; rw [if_neg a] at k
      exact lv_icmp_ne (tgt := ((pc : Int) + off).toNat) hx hb hd (by omega) (fun c1 => absurd (decide_eq_true c1) a) (fun _ => k)
  | lt =>
    by_cases a : am_c2 .lt x y = true
    · have k := k lsC Hc locs hl hL hI hS z1 z2
      dsimp only at k; rw [if_pos a] at k
      exact lv_icmp_lt (tgt := ((pc : Int) + off).toNat) hx hb hd (by omega) (fun _ => k) (fun c1 => absurd (of_decide_eq_true a) c1)
    · have k := k lsC Hc locs hl hL hI hS z1 z2
      dsimp only at k; rw [if_neg a] at k
      exact lv_icmp_lt (tgt := ((pc : Int) + off).toNat) hx hb hd (by omega) (fun c1 => absurd (decide_eq_true c1) a) (fun _ => k)
  | ge =>
    by_cases a : am_c2 .ge x y = true
    · have k := k lsC Hc locs hl hL hI hS z1 z2
      dsimp only at k; rw [if_pos a] at k
      exact lv_icmp_ge (tgt := ((pc : Int) + off).toNat) hx hb hd (by omega) (fun _ => k) (fun c1 => absurd (of_decide_eq_true a) c1)
    · have k := k lsC Hc locs hl hL hI hS z1 z2
      dsimp only at k; rw [if_neg a] at k
      exact lv_icmp_ge (tgt := ((pc : Int) + off).toNat) hx hb hd (by omega) (fun c1 => absurd (decide_eq_true c1) a) (fun _ => k)
  | gt =>
    by_cases a : am_c2 .gt x y = true
    · have k := k lsC Hc locs hl hL hI hS z1 z2
      dsimp only at k; rw [if_pos a] at k
      exact lv_icmp_gt (tgt := ((pc : Int) + off).toNat) hx hb hd (by omega) (fun _ => k) (fun c1 => absurd (of_decide_eq_true a) c1)
    · have k := k lsC Hc locs hl hL hI hS z1 z2
      dsimp only at k; rw [if_neg a] at k
      exact lv_icmp_gt (tgt := ((pc : Int) + off).toNat) hx hb hd (by omega) (fun c1 => absurd (decide_eq_true c1) a) (fun _ => k)
  | le =>
    by_cases a : am_c2 .le x y = true
    · have k := k lsC Hc locs hl hL hI hS z1 z2
      dsimp only at k; rw [if_pos a] at k
      exact lv_icmp_le (tgt := ((pc : Int) + off).toNat) hx hb hd (by omega) (fun _ => k) (fun c1 => absurd (of_decide_eq_true a) c1)
    · have k := k lsC Hc locs hl hL hI hS z1 z2
      dsimp only at k; rw [if_neg a] at k
      exact lv_icmp_le (tgt := ((pc : Int) + off).toNat) hx hb hd (by omega) (fun c1 => absurd (decide_eq_true c1) a) (fun _ => k)
theorem am_w_ifnn (C : am_Cx p R s m args meth c g mi sz0) {pc : Nat} {ls : am_L} {st : List Value} {H : am_H} {r : Nat × am_L × List Value × am_H} {off : Int} (hd : decode mi.2.1 pc = .ok (.ifnonnull off, 3)) (h : am_step g.2.2.2 mi (.ifnonnull off) pc ls st H = some r) (k : am_K p l e R s m args below meth c Q g mi sz0 sl0 r.1 r.2.1 r.2.2.1 r.2.2.2) : am_K p l e R s m args below meth c Q g mi sz0 sl0 pc ls st H := by
  intro lsC Hc locs hl hL hI hS z1 z2
  obtain ⟨hx, hb, hml, hown, hts, hini, hR, hKn, hB⟩ := C
  have h : am_nn off pc ls st H = some r := h
  unfold am_nn at h
  split at h
  · obtain ⟨ho, rfl⟩ := am_tgt_inv h
    exact lv_ifnonnull (tgt := ((pc : Int) + off).toNat) hx hb hd (by omega) (k _ _ _ hl hL hI hS z1 z2)
  · cases h; exact lv_ifnonnullN hx hb hd (k _ _ _ hl hL hI hS z1 z2)
  · cases h
theorem am_w_goto (C : am_Cx p R s m args meth c g mi sz0) {pc : Nat} {ls : am_L} {st : List Value} {H : am_H} {r : Nat × am_L × List Value × am_H} {off : Int} (hd : decode mi.2.1 pc = .ok (.goto off, 3)) (h : am_step g.2.2.2 mi (.goto off) pc ls st H = some r) (k : am_K p l e R s m args below meth c Q g mi sz0 sl0 r.1 r.2.1 r.2.2.1 r.2.2.2) : am_K p l e R s m args below meth c Q g mi sz0 sl0 pc ls st H := by
  intro lsC Hc locs hl hL hI hS z1 z2
  obtain ⟨hx, hb, hml, hown, hts, hini, hR, hKn, hB⟩ := C
  obtain ⟨ho, rfl⟩ := am_tgt_inv h
  exact lv_goto (tgt := ((pc : Int) + off).toNat) hx hb hd (by omega) (k _ _ _ hl hL hI hS z1 z2)
theorem am_w_tsw (C : am_Cx p R s m args meth c g mi sz0) {pc : Nat} {ls : am_L} {st : List Value} {H : am_H} {r : Nat × am_L × List Value × am_H} {n0 : Nat} {d lo hi : Int} {offs : Array Int} (hd : decode mi.2.1 pc = .ok (.tableswitch d lo hi offs, n0)) (h : am_step g.2.2.2 mi (.tableswitch d lo hi offs) pc ls st H = some r) (k : am_K p l e R s m args below meth c Q g mi sz0 sl0 r.1 r.2.1 r.2.2.1 r.2.2.2) : am_K p l e R s m args below meth c Q g mi sz0 sl0 pc ls st H := by
  intro lsC Hc locs hl hL hI hS z1 z2
  obtain ⟨hx, hb, hml, hown, hts, hini, hR, hKn, hB⟩ := C
  have h : am_tsw d lo hi offs pc ls st H = some r := h
  unfold am_tsw at h
  split at h
  · split at h
    · obtain ⟨ho, rfl⟩ := am_tgt_inv h
      exact lv_tableOut (tgt := ((pc : Int) + d).toNat) hx hb hd (by assumption) (by omega) (k _ _ _ hl hL hI hS z1 z2)
    · rename_i q
      split at h
      · rename_i off hoff
        obtain ⟨ho, rfl⟩ := am_tgt_inv h
        exact lv_tableIn (tgt := ((pc : Int) + off).toNat) hx hb hd (fun z => q (Or.inl z)) (fun z => q (Or.inr z)) hoff (by omega) (k _ _ _ hl hL hI hS z1 z2)
      · cases h
  · cases h
theorem am_w_lsw (C : am_Cx p R s m args meth c g mi sz0) {pc : Nat} {ls : am_L} {st : List Value} {H : am_H} {r : Nat × am_L × List Value × am_H} {n0 : Nat} {d : Int} {ps : Array (Int × Int)} (hd : decode mi.2.1 pc = .ok (.lookupswitch d ps, n0)) (h : am_step g.2.2.2 mi (.lookupswitch d ps) pc ls st H = some r) (k : am_K p l e R s m args below meth c Q g mi sz0 sl0 r.1 r.2.1 r.2.2.1 r.2.2.2) : am_K p l e R s m args below meth c Q g mi sz0 sl0 pc ls st H := by
  intro lsC Hc locs hl hL hI hS z1 z2
  obtain ⟨hx, hb, hml, hown, hts, hini, hR, hKn, hB⟩ := C
  have h : am_lsw d ps pc ls st H = some r := h
  unfold am_lsw at h
  split at h
  · split at h
    · obtain ⟨ho, rfl⟩ := am_tgt_inv h
      exact lv_lookup (tgt := ((pc : Int) + Op.lookupswitch.offset ps.toList d _).toNat) hx hb hd (by assumption) rfl (by omega) (k _ _ _ hl hL hI hS z1 z2)
    · cases h
  · cases h
end AMS
end
section
theorem am_tyA_comp {t : Nat} (h0 : 0 < t) (h4 : t < 4) : am_tyA t = .object (am_cn (am_comp t)) := by
  match t, h0, h4 with
  | 1, _, _ => rfl
  | 2, _, _ => rfl
  | 3, _, _ => rfl
theorem am_tx0 (k : Nat) : (TX0 k).1 = RX0 := by unfold TX0; split <;> rfl
theorem am_tx1 (k : Nat) : (TX1 k).1 = RX1 := by unfold TX1; split <;> rfl
theorem am_tx2 (k : Nat) : (TX2 k).1 = RX2 := by unfold TX2; split <;> rfl
theorem am_tx3 (k : Nat) : (TX3 k).1 = RX3 := by unfold TX3; split <;> rfl
theorem am_tx4 (k : Nat) : (TX4 k).1 = RX4 := by unfold TX4; split <;> rfl
theorem am_tx5 (k : Nat) : (TX5 k).1 = RX5 := by unfold TX5; split <;> rfl
theorem am_tx6 (k : Nat) : (TX6 k).1 = RX6 := by unfold TX6; split <;> rfl
theorem am_tx7 (k : Nat) : (TX7 k).1 = RX7 := by unfold TX7; split <;> rfl
theorem am_tx8 (k : Nat) : (TX8 k).1 = RX8 := by unfold TX8; split <;> rfl
theorem am_tx9 (k : Nat) : (TX9 k).1 = RX9 := by unfold TX9; split <;> rfl
theorem am_tx10 (k : Nat) : (TX10 k).1 = RX10 := by unfold TX10; split <;> rfl
theorem am_tx11 (k : Nat) : (TX11 k).1 = RX11 := by unfold TX11; split <;> rfl
theorem am_tx12 (k : Nat) : (TX12 k).1 = RX12 := by unfold TX12; split <;> rfl
theorem am_finOwn {ci k c : Nat} {r : vw_C} (hr : vwCl[ci]? = some r) (hk : k < r.2.2) (hf : (r.2.1 k).2.2.2 = true) (h : ci = c) : (r.2.1 k).1 = am_cn c := by
  subst h
  match ci, hr with
  | 0, hr => cases hr; exact am_tx0 k
  | 1, hr => cases hr; exact am_tx1 k
  | 2, hr => cases hr; exact am_tx2 k
  | 3, hr => cases hr; exact am_tx3 k
  | 4, hr => cases hr; exact am_tx4 k
  | 5, hr => cases hr; exact am_tx5 k
  | 6, hr => cases hr; exact am_tx6 k
  | 7, hr => cases hr; exact am_tx7 k
  | 8, hr => cases hr; exact am_tx8 k
  | 9, hr => cases hr; exact am_tx9 k
  | 10, hr => cases hr; exact am_tx10 k
  | 11, hr => cases hr; exact am_tx11 k
  | 12, hr => cases hr; exact am_tx12 k
  | n + 13, h => simp [vwCl] at h
theorem am_nn_i (z : Int32) (hz : ¬ z < 0) : z.toInt = (z.toNatClampNeg : Int) := by
  have hz0 : (0 : Int) ≤ z.toInt := by
    have := Int32.not_lt.mp hz
    simpa using Int32.le_iff_toInt_le.mp this
  show z.toInt = ((z.toInt.toNat : Nat) : Int)
  omega
theorem am_copyW {p : Program} {l : Launch} {e : Env} {R : Room} {s : State} {m : MethodId} {args : Array Value} {below : List Frame} {meth : Method} {c : Code} {H : Heap} {locs : List Loc} {cells slots : Nat} {Q : State → Prop} {cc : ByteArray} {pc : Nat} {ls : Array Slot} {rest : List Value} (hexec : p.tables.exec = Jvm.exec) (hb : c.code = cc) (hml : c.maxLocals = ls.size) {own : String} {index : Nat} (hown : s.vm.findClass own = some m.cls) (hlink : (Cond.methodLink own index arraycopyName).before args s = true) (hnat : (Cond.native arraycopyName).before args s = true) (hstat : (Cond.static arraycopyName).before args s = true) (hini : (Cond.initialized "java/lang/System").before args s = true)
    {cA : ClassId} (hAr : ArrOfT s cA .int) {a a0 : Nat} {n0 n1 : Nat} {f f1 : Nat → Int32} (hc0 : H[a0]? = some (vp_cell cA (n0, .inl f))) (hc1 : H[a]? = some (vp_cell cA (n1, .inl f1)))
    {sp dp n : Int32} (h1 : ¬ sp < 0) (h2 : ¬ dp < 0) (h3 : ¬ n < 0) (h4 : sp.toNatClampNeg + n.toNatClampNeg ≤ n0) (h5 : dp.toNatClampNeg + n.toNatClampNeg ≤ n1)
    (hframes : 1 ≤ R.frames) (hlocals : (rest.map fun v => v.category).sum + 18 ≤ R.locals) (hdg : decode cc pc = .ok (.invokestatic index, 3))
    (kk : ∀ (H1 : Heap) (L : List Loc), H1[a]? = some (vp_cell cA (n1, .inl (va_cpy f f1 sp.toNatClampNeg dp.toNatClampNeg n.toNatClampNeg))) → H1.size = H.size → (∀ q : Nat, q ≠ a → H1[q]? = H[q]?) → (∀ q ∈ L, q.base = a) → W p l e R s m args below meth c H1 (locs ++ L) cells slots Q (F0 m (pc + 3) ls rest)) : W p l e R s m args below meth c H locs cells slots Q (F0 m pc ls (.int n :: .int dp :: .ref a :: .int sp :: .ref a0 :: rest)) := by
  intro T hT X
  obtain ⟨-, k0, hk0, cm0, hkk0⟩ := hAr n0 (fun j => .int (f j))
  obtain ⟨-, k1, hk1, cm1, hkk1⟩ := hAr n1 (fun j => .int (f1 j))
  obtain ⟨vm', X', step⟩ := X.arraycopy hexec hown hlink hnat hstat hini (src := a0) (dst := a) (cs := vp_cell cA (n0, .inl f)) (cd := vp_cell cA (n1, .inl f1)) (srcPos := sp) (destPos := dp) (n := n) (by rw [hT]; exact hc0) (by rw [hT]; exact hc1)
    (fun _ h => by cases h) (fun _ h => by cases h) (fun h => by cases h) (fun h => by cases h) hk0 hk1 hkk0 hkk1 (by simp [refKind]) h1 h2 h3
    (by rw [am_nn_i sp h1, am_nn_i n h3]; show ¬ _ > ((arrV cA n0 (fun j => .int (f j))).slots.size : Int); rw [arrV_size]; omega)
    (by rw [am_nn_i dp h2, am_nn_i n h3]; show ¬ _ > ((arrV cA n1 (fun j => .int (f1 j))).slots.size : Int); rw [arrV_size]; omega)
    (fun vm₁ _ i hi => by
      have e : (vp_cell cA (n0, .inl f)).slots.getD (sp.toNatClampNeg + i) .null = .int (f (sp.toNatClampNeg + i)) := by
        show (arrV cA n0 (fun j => .int (f j))).slots.getD _ _ = _
        rw [Array.getD_eq_getD_getElem?, arrV_read _ _ (by omega)]
        rfl
      refine ⟨?_, ?_⟩
      · rw [e]
        rfl
      · rw [e]
        exact trivial)
    (g := F0 m pc ls (.int n :: .int dp :: .ref a :: .int sp :: .ref a0 :: rest)) rfl (by rw [hml]) (rest := rest) rfl (by rw [hb]; exact hdg) hframes (by show 2 * 0 + _ + 18 ≤ _; omega)
  have e1 : copied (vp_cell cA (n0, .inl f)) (vp_cell cA (n1, .inl f1)) sp dp n = vp_cell cA (n1, .inl (va_cpy f f1 sp.toNatClampNeg dp.toNatClampNeg n.toNatClampNeg)) := va_copied (fun z => .int z) cA cA f f1 h4
  rw [e1] at X' step
  have hl : a < H.size := (Array.getElem?_eq_some_iff.mp hc1).1
  have hheap : ((T.setVm vm').setCell a (vp_cell cA (n1, .inl (va_cpy f f1 sp.toNatClampNeg dp.toNatClampNeg n.toNatClampNeg)))).heap = H.setIfInBounds a (vp_cell cA (n1, .inl (va_cpy f f1 sp.toNatClampNeg dp.toNatClampNeg n.toNatClampNeg))) := by rw [← hT]; rfl
  obtain ⟨t, a1, b1⟩ := kk _ _ (by simp [Array.getElem?_setIfInBounds, hl]) (by simp) (fun q hq => by simp [Array.getElem?_setIfInBounds, Ne.symm hq]) (fun q hq => by
      obtain ⟨z, -, hz⟩ := List.mem_map.mp hq
      rw [← hz]) _ hheap X'
  exact ⟨t, step t a1, b1⟩
set_option maxRecDepth 100000 in
theorem am_wgets : Cond.fieldLink RX11 99 "CardTabulator" "MOST_OF_SETTING" "[I" ∈ wsL_law := wr11 _ (List.mem_of_getElem? (i := 18) rfl)
set_option maxRecDepth 100000 in
theorem am_wobj1 : Cond.instanceMethod objectInit ∈ wsL_law := wr1 _ (List.mem_of_getElem? (i := 10) rfl)
set_option maxRecDepth 100000 in
theorem am_wobj2 : Cond.code objectInit ⟨#[0xb1]⟩ 1 none ∈ wsL_law := wr1 _ (List.mem_of_getElem? (i := 11) rfl)
set_option maxRecDepth 100000 in
theorem am_wcp1 : Cond.native arraycopyName ∈ wsL_law := wr9 _ (List.mem_of_getElem? (i := 4) rfl)
set_option maxRecDepth 100000 in
theorem am_wcp2 : Cond.static arraycopyName ∈ wsL_law := wr9 _ (List.mem_of_getElem? (i := 5) rfl)
set_option maxRecDepth 100000 in
theorem am_wcp3 : Cond.initialized "java/lang/System" ∈ wsL_law := wr9 _ (List.mem_of_getElem? (i := 6) rfl)
set_option maxRecDepth 100000 in
theorem am_wmin1 : Cond.static Lib.Math.min.name ∈ wsL_law := wr22 _ (List.mem_of_getElem? (i := 0) rfl)
set_option maxRecDepth 100000 in
theorem am_wmin2 : Cond.code Lib.Math.min.name Lib.Math.min.code 2 (some .int) ∈ wsL_law := wr22 _ (List.mem_of_getElem? (i := 1) rfl)
set_option maxRecDepth 100000 in
theorem am_wabs1 : Cond.static Lib.Math.abs.name ∈ wsL_law := wr20 _ (List.mem_of_getElem? (i := 0) rfl)
set_option maxRecDepth 100000 in
theorem am_wabs2 : Cond.code Lib.Math.abs.name Lib.Math.abs.code 1 (some .int) ∈ wsL_law := wr20 _ (List.mem_of_getElem? (i := 2) rfl)
set_option maxRecDepth 100000 in
theorem am_wmath : Cond.initialized "java/lang/Math" ∈ wsL_law := wr20 _ (List.mem_of_getElem? (i := 1) rfl)
set_option maxRecDepth 100000 in
theorem am_warr : Cond.arrayClass .int ∈ wsL_law := wr3 _ (List.mem_of_getElem? (i := 12) rfl)
section AMH
variable {p : Program} {l : Launch} {e : Env} {R : Room} {s : State} {m : MethodId} {args : Array Value} {below : List Frame} {meth : Method} {c : Code} {Q : State → Prop} {g : am_g} {mi : am_I} {sz0 sl0 : Nat}
theorem am_okv_sp {ty : FieldType} {v : Value} (h : am_okv ty v = true) : narrow ty v = v ∧ fits ty v = true := by
  cases ty <;> cases v <;> first | exact ⟨rfl, rfl⟩ | cases h
theorem am_bl_V {ci : Nat} {r : vw_C} (hr : vwCl[ci]? = some r) {j : Nat} (hj : j < r.2.2) : defaultValue (am_tys ci j) = vp_V (am_bl ci) j := by
  unfold am_bl vp_V
  rw [hr]
  simp [List.getD_eq_getElem?_getD, hj]
theorem am_bl_len {ci : Nat} {r : vw_C} (hr : vwCl[ci]? = some r) : (am_bl ci).length = r.2.2 := by
  unfold am_bl
  rw [hr]
  simp
theorem am_nf_e {ci : Nat} {r : vw_C} (hr : vwCl[ci]? = some r) : am_nf ci = r.2.2 := by
  unfold am_nf
  rw [hr]
theorem am_one {g : am_g} {a ci : Nat} {fs : List Value} {r : vw_C} {Hc : Heap} (hr : vwCl[ci]? = some r) (ho : t_OB a (g.1.1 ci) r.2.2 (g.1.2 ci) Hc (vp_V fs)) : va_P g.1 vwCl [(a, .inr (ci, fs))] Hc := by
  intro j q hq
  cases j with
  | zero => cases hq; exact ⟨r, hr, ho⟩
  | succ j => simp at hq
theorem am_iarr {a t n : Nat} {f : Nat → Int32} {Hc : Heap} (hKn : am_Kn g s) (h : am_at g s a (.inl (t, n, .inl f)) Hc) (ht : t = 0 ∨ t = 9) : ∃ cell : Cell, Hc[a]? = some cell ∧ s.isArrayOf cell .int ∧ cell.vm ≠ .unknown ∧ n ≤ cell.slots.size ∧ cell.slots.size.toInt32 = Int32.ofNat n ∧ ∀ j : Nat, j < n → cell.slots[j]? = some (.int (f j)) := by
  rcases h with ⟨h1, h2, n', f', h3, cell, q1, q2, q3, q4, q5, q6, q7⟩ | ⟨h1, h2, h3⟩
  · cases h3
    exact ⟨cell, q1, q2, q3, q4, q5, q6⟩
  · have h0 : t = 0 := by omega
    subst h0
    refine ⟨_, h3, (hKn.2.1 0 (by decide)).1 n (fun j => .int (f j)), (fun q => by cases q), ?_, ?_, fun j hj => ?_⟩
    · show n ≤ (arrV _ _ _).slots.size
      rw [arrV_size]
      exact Nat.le_refl _
    · show (arrV _ _ _).slots.size.toInt32 = _
      rw [arrV_size]
      try rfl
    · show (arrV _ _ _).slots[j]? = _
      rw [arrV_read _ _ hj]
theorem am_w_getf (C : am_Cx p R s m args meth c g mi sz0) {pc : Nat} {ls : am_L} {st : List Value} {H : am_H} {r : Nat × am_L × List Value × am_H} {cp : Nat} (hd : decode mi.2.1 pc = .ok (.getfield cp, 3)) (h : am_step g.2.2.2 mi (.getfield cp) pc ls st H = some r) (hRm : r.2.2.2.2.1 - sz0 ≤ R.cells ∧ r.2.2.2.2.2 - sl0 ≤ R.slots) (k : am_K p l e R s m args below meth c Q g mi sz0 sl0 r.1 r.2.1 r.2.2.1 r.2.2.2) : am_K p l e R s m args below meth c Q g mi sz0 sl0 pc ls st H := by
  intro lsC Hc locs hl hL hI hS z1 z2
  obtain ⟨hx, hb, hml, hown, hts, hini, hR, hKn, hB⟩ := C
  replace h : am_getf mi.1 cp (pc + 3) ls st H = some r := h
  unfold am_getf at h
  split at h
  · rename_i a st0 ci q hlk
    split at h
    · rename_i cj fs ha
      split at h
      · rename_i hci
        subst hci
        split at h
        · rename_i v hv
          cases h
          obtain ⟨r0, hr0, hk, hw⟩ := am_fldP _ _ (am_lk _ _ _ hlk)
          dsimp only at hr0 hk hw
          obtain ⟨-, r1, hr1, hlen, hob⟩ := (hI.2.2.2 a _ ha).2
          cases hr1.symm.trans hr0
          obtain ⟨hin, hty, hnm, hcn⟩ := am_clP _ _ hr0
          exact va_get (D := g.1) (ci := cj) (C := r0.1) (T := r0.2.1) (N := r0.2.2) (tys := []) hx hb hts hin hown hKn.1 (am_one hr0 hob) 0 rfl hr0 q hk (hts _ hw) (fun _ z => z) hv hd (k _ _ _ hl hL hI hS z1 z2)
        · cases h
      · cases h
    · cases h
  · cases h
theorem am_w_putf (C : am_Cx p R s m args meth c g mi sz0) {pc : Nat} {ls : am_L} {st : List Value} {H : am_H} {r : Nat × am_L × List Value × am_H} {cp : Nat} (hd : decode mi.2.1 pc = .ok (.putfield cp, 3)) (h : am_step g.2.2.2 mi (.putfield cp) pc ls st H = some r) (hRm : r.2.2.2.2.1 - sz0 ≤ R.cells ∧ r.2.2.2.2.2 - sl0 ≤ R.slots) (k : am_K p l e R s m args below meth c Q g mi sz0 sl0 r.1 r.2.1 r.2.2.1 r.2.2.2) : am_K p l e R s m args below meth c Q g mi sz0 sl0 pc ls st H := by
  intro lsC Hc locs hl hL hI hS z1 z2
  obtain ⟨hx, hb, hml, hown, hts, hini, hR, hKn, hB⟩ := C
  replace h : am_putf (am_ini mi) mi.1 cp (pc + 3) ls st H = some r := h
  unfold am_putf at h
  split at h
  · rename_i v a st0 ci q hlk
    split at h
    · rename_i cj fs ha
      split at h
      · rename_i hcond
        obtain ⟨hci, hok, hfin⟩ := hcond
        subst hci
        cases h
        obtain ⟨r0, hr0, hk, hw⟩ := am_fldP _ _ (am_lk _ _ _ hlk)
        dsimp only at hr0 hk hw
        have hlt := (hI.2.2.2 a _ ha).1
        obtain ⟨hBa, r1, hr1, hlen, hob⟩ := (hI.2.2.2 a _ ha).2
        cases hr1.symm.trans hr0
        obtain ⟨hin, hty, hnm, hcn⟩ := am_clP _ _ hr0
        obtain ⟨hn, hfit⟩ := am_okv_sp hok
        have hap := va_apart (own := "") hts hin (am_tys cj) hty hnm hKn.1 hr0
        obtain ⟨cell, q1, q2, q3, q4⟩ := hob
        obtain ⟨hSl, hfc, kC, hkC, hkind⟩ := hKn.1.1 cj _ hr0
        obtain ⟨cf, kf, fi, f, hi, hsl⟩ := hSl q hk
        have hst := (u_facts hfc hkC (u_lays hts hin hk) hi).1
        have hlay := hts _ (hin _ (u_in_lay hk))
        unfold u_lay at hlay
        have hkk : ∀ H1 : Heap, H1[a]? = some (cell.setSlot f.slot v) → H1.size = Hc.size → (∀ q, q ≠ a → H1[q]? = Hc[q]?) → W p l e R s m args below meth c H1 (locs ++ [⟨a, f.slot⟩]) (H.2.1 - sz0) (H.2.2 - sl0) Q (F0 m (pc + 3) lsC st0) := by
          intro H1 e1 e2 e3
          rw [hsl] at e1
          refine k lsC H1 _ hl hL (hI.put e2 e3 hBa hlt ⟨hBa, r0, hr0, by rw [List.length_set]; exact hlen, ?_⟩) (hS.put e2 e3 hBa) z1 z2
          exact t_OB.to (V := updV (vp_V fs) q v) ⟨_, e1, q2, q3, t_set q4 hap hk v⟩ (fun j _ => vp_updV_set (by omega) v j)
        by_cases hf : (r0.2.1 q).2.2.2 = true
        · rw [if_pos hf] at hlay
          rcases hfin with hfin | ⟨hi1, hi2⟩
          · unfold am_fin at hfin
            rw [hr0] at hfin
            exact absurd (hf.symm.trans hfin) (by decide)
          · have hcf : m.cls = cf := by
              obtain ⟨_, _, c', _, _, _, -, -, hf', -, -, -, hown2, -⟩ := Cond.laysFinal_spec hlay
              have e1 : c' = cf := by have := hi.symm.trans hf'; simp at this; exact this.1.symm
              have e2 : (r0.2.1 q).1 = am_cn mi.1 := am_finOwn hr0 hk hf hi2
              rw [e2] at hown2
              rw [← e1]; exact Option.some.inj (hown.symm.trans hown2)
            have h6 := u_fits hfc hkC hkind (Or.inr hlay) hi (hty q hk) hn hfit
            exact W.putFinK hx hb hown (hts _ hw) hi hst hcf (hini hi1) (by rw [q2]; exact h6) q1 q3 (by rw [hsl]; exact k2_hasslot (q4 q hk)) rfl rfl hd hkk
        · rw [if_neg hf] at hlay
          have h6 := u_store hfc hkC hkind hlay hi (hty q hk) hn hfit
          exact W.putK hx hb (f := f) ⟨hown, hts _ hw, ⟨_, _, _, hi⟩, hst⟩ (by rw [q2]; exact h6) q1 q3 (by rw [hsl]; exact k2_hasslot (q4 q hk)) rfl rfl hd hkk
      · cases h
    · cases h
  · cases h
theorem am_w_gets (C : am_Cx p R s m args meth c g mi sz0) {pc : Nat} {ls : am_L} {st : List Value} {H : am_H} {r : Nat × am_L × List Value × am_H} {cp : Nat} (hd : decode mi.2.1 pc = .ok (.getstatic cp, 3)) (h : am_step g.2.2.2 mi (.getstatic cp) pc ls st H = some r) (hRm : r.2.2.2.2.1 - sz0 ≤ R.cells ∧ r.2.2.2.2.2 - sl0 ≤ R.slots) (k : am_K p l e R s m args below meth c Q g mi sz0 sl0 r.1 r.2.1 r.2.2.1 r.2.2.2) : am_K p l e R s m args below meth c Q g mi sz0 sl0 pc ls st H := by
  intro lsC Hc locs hl hL hI hS z1 z2
  obtain ⟨hx, hb, hml, hown, hts, hini, hR, hKn, hB⟩ := C
  replace h : am_gets g.2.2.2 mi.1 cp (pc + 3) ls st H = some r := h
  unfold am_gets at h
  split at h
  · rename_i q
    cases h
    obtain ⟨q1, q2⟩ := q
    subst q2
    rw [q1] at hown
    obtain ⟨cf, kf, fi, f, a, cell, h1, h2, h3, h4, h5, h6, h7, h8⟩ := hI.2.2.1
    exact W.gets hx hb hown (hts _ am_wgets) h1 h2 h3 h4 h5 (fun e => by rw [e] at h6; cases h6) h7 rfl hd (k _ _ _ hl hL hI hS z1 z2)
  · cases h
theorem am_w_new (C : am_Cx p R s m args meth c g mi sz0) {pc : Nat} {ls : am_L} {st : List Value} {H : am_H} {r : Nat × am_L × List Value × am_H} {cp : Nat} (hd : decode mi.2.1 pc = .ok (.new cp, 3)) (h : am_step g.2.2.2 mi (.new cp) pc ls st H = some r) (hRm : r.2.2.2.2.1 - sz0 ≤ R.cells ∧ r.2.2.2.2.2 - sl0 ≤ R.slots) (k : am_K p l e R s m args below meth c Q g mi sz0 sl0 r.1 r.2.1 r.2.2.1 r.2.2.2) : am_K p l e R s m args below meth c Q g mi sz0 sl0 pc ls st H := by
  intro lsC Hc locs hl hL hI hS z1 z2
  obtain ⟨hx, hb, hml, hown, hts, hini, hR, hKn, hB⟩ := C
  replace h : am_new mi.1 cp (pc + 3) ls st H = some r := h
  unfold am_new at h
  split at h
  · rename_i ci hlk
    cases h
    obtain ⟨r0, hr0, hw1, hw2, hw3⟩ := am_newP _ _ (am_lk _ _ _ hlk)
    dsimp only at hr0 hw1 hRm
    have hnf := am_nf_e hr0
    obtain ⟨hin, hty, hnm, hcn⟩ := am_clP _ _ hr0
    have hKc := hKn.1.1 ci _ hr0
    refine W.newcK hx hb hown (hts _ hw1) (hts _ hw2) (hts _ hw3) rfl hd (by omega) (by omega) hKc.2.1 rfl fun H1 kC hkC e1 y1 o1 => ?_
    have k := k lsC H1 locs hl hL (hI.push (c' := .inr (ci, am_bl ci)) y1 o1 ⟨hI.2.1, r0, hr0, am_bl_len hr0, (u_born (am_tys ci) hts hin hKc hkC (by rw [← hI.1]; exact e1) hty).to (fun j hj => am_bl_V hr0 hj)⟩) ⟨Nat.le_trans hS.1 (by omega), fun x g1 g2 => (o1 x (Nat.lt_of_lt_of_le g1 hS.1)).trans (hS.2.1 x g1 g2), hS.2.2⟩ (by show sz0 ≤ H.2.1 + 1; omega) (by show sl0 ≤ H.2.2 + am_nf ci; omega)
    dsimp only at k
    rw [show H.2.1 + 1 - sz0 = (H.2.1 - sz0) + 1 by omega, show H.2.2 + am_nf ci - sl0 = (H.2.2 - sl0) + r0.2.2 by omega] at k
    rw [hI.1]
    exact k
  · cases h
theorem am_w_newa (C : am_Cx p R s m args meth c g mi sz0) {pc : Nat} {ls : am_L} {st : List Value} {H : am_H} {r : Nat × am_L × List Value × am_H} {t : ArrayType} (hd : decode mi.2.1 pc = .ok (.newarray t, 2)) (h : am_step g.2.2.2 mi (.newarray t) pc ls st H = some r) (hRm : r.2.2.2.2.1 - sz0 ≤ R.cells ∧ r.2.2.2.2.2 - sl0 ≤ R.slots) (k : am_K p l e R s m args below meth c Q g mi sz0 sl0 r.1 r.2.1 r.2.2.1 r.2.2.2) : am_K p l e R s m args below meth c Q g mi sz0 sl0 pc ls st H := by
  intro lsC Hc locs hl hL hI hS z1 z2
  obtain ⟨hx, hb, hml, hown, hts, hini, hR, hKn, hB⟩ := C
  replace h : (if t = .int then am_newa (pc + 2) ls st H else none) = some r := h
  split at h
  · rename_i ht
    subst ht
    unfold am_newa at h
    split at h
    · rename_i n st0
      split at h
      · rename_i hc
        cases h
        dsimp only at hRm
        refine va_newaK (atype := .int) hx hb (hts _ am_warr) rfl hd rfl (am_nlt hc.1) rfl (by show _ * 4 ≤ _; omega) (by omega) (by omega) rfl fun H1 cA e1 y1 o1 hAr hNm => ?_
        have hA0 : s.vm.findClass ("[" ++ (FieldType.int).toString) = some (g.2.1 0) := (hKn.2.1 0 (by decide)).2
        cases hNm.symm.trans hA0
        have k := k lsC H1 locs hl hL (hI.push (c' := .inl (0, n.toNatClampNeg, .inl (fun _ => 0))) y1 o1 (Or.inr ⟨by decide, hI.2.1, by rw [← hI.1]; exact e1⟩)) ⟨Nat.le_trans hS.1 (by omega), fun x g1 g2 => (o1 x (Nat.lt_of_lt_of_le g1 hS.1)).trans (hS.2.1 x g1 g2), hS.2.2⟩ (by show sz0 ≤ H.2.1 + 1; omega) (by show sl0 ≤ H.2.2 + _; omega)
        dsimp only at k
        rw [show H.2.1 + 1 - sz0 = (H.2.1 - sz0) + 1 by omega, show H.2.2 + n.toNatClampNeg - sl0 = (H.2.2 - sl0) + n.toNatClampNeg by omega] at k
        rw [hI.1]
        exact k
      · cases h
    · cases h
  · cases h
theorem am_w_anew (C : am_Cx p R s m args meth c g mi sz0) {pc : Nat} {ls : am_L} {st : List Value} {H : am_H} {r : Nat × am_L × List Value × am_H} {cp : Nat} (hd : decode mi.2.1 pc = .ok (.anewarray cp, 3)) (h : am_step g.2.2.2 mi (.anewarray cp) pc ls st H = some r) (hRm : r.2.2.2.2.1 - sz0 ≤ R.cells ∧ r.2.2.2.2.2 - sl0 ≤ R.slots) (k : am_K p l e R s m args below meth c Q g mi sz0 sl0 r.1 r.2.1 r.2.2.1 r.2.2.2) : am_K p l e R s m args below meth c Q g mi sz0 sl0 pc ls st H := by
  intro lsC Hc locs hl hL hI hS z1 z2
  obtain ⟨hx, hb, hml, hown, hts, hini, hR, hKn, hB⟩ := C
  replace h : am_anew mi.1 cp (pc + 3) ls st H = some r := h
  unfold am_anew at h
  split at h
  · rename_i n st0 t hlk
    split at h
    · rename_i hc
      cases h
      dsimp only at hRm
      obtain ⟨⟨ht0, ht4⟩, hw⟩ := am_anP _ _ (am_lk _ _ _ hlk)
      dsimp only at ht0 ht4 hw
      have hcmp : am_tyA t = .object (am_cn (am_comp t)) := am_tyA_comp ht0 ht4
      refine W.anew hx hb hown (hts _ hw) (va_AO.use (hKn.2.2.1 t ht0 ht4)) rfl hd rfl (am_nlt hc.1) (by omega) (by omega) (by omega) fun cA kA comp f1 f2 f3 f4 => ?_
      generalize hH1 : Hc.push ({ cls := cA, slots := Array.replicate n.toNatClampNeg .null, vm := .none } : Cell) = H1
      have y1 : H1.size = Hc.size + 1 := by rw [← hH1, Array.size_push]
      have e1 : H1[Hc.size]? = some (arrV cA n.toNatClampNeg (fun _ => .null)) := by rw [← hH1, Array.getElem?_push_size, ← arrV_new]
      have o1 : ∀ q : Nat, q < Hc.size → H1[q]? = Hc[q]? := fun q hq => by rw [← hH1, Array.getElem?_push, if_neg (Nat.ne_of_lt hq)]
      have hA0 := (hKn.2.1 t ht4).2
      rw [hcmp] at hA0
      obtain ⟨kA2, comp2, w1, w2, w3, w4⟩ := hA0
      cases f1.symm.trans w4
      have k := k lsC H1 locs hl hL (hI.push (c' := .inl (t, n.toNatClampNeg, .inr (.inr (.inr (.inr (fun _ => none)))))) y1 o1 (Or.inr ⟨ht4, hI.2.1, by rw [← hI.1]; exact e1⟩)) ⟨Nat.le_trans hS.1 (by omega), fun x g1 g2 => (o1 x (Nat.lt_of_lt_of_le g1 hS.1)).trans (hS.2.1 x g1 g2), hS.2.2⟩ (by show sz0 ≤ H.2.1 + 1; omega) (by show sl0 ≤ H.2.2 + _; omega)
      dsimp only at k
      rw [show H.2.1 + 1 - sz0 = (H.2.1 - sz0) + 1 by omega, show H.2.2 + n.toNatClampNeg - sl0 = (H.2.2 - sl0) + n.toNatClampNeg by omega] at k
      rw [hI.1]
      exact k
    · cases h
  · cases h
theorem am_w_iald (C : am_Cx p R s m args meth c g mi sz0) {pc : Nat} {ls : am_L} {st : List Value} {H : am_H} {r : Nat × am_L × List Value × am_H}  (hd : decode mi.2.1 pc = .ok (.iaload, 1)) (h : am_step g.2.2.2 mi (.iaload) pc ls st H = some r) (hRm : r.2.2.2.2.1 - sz0 ≤ R.cells ∧ r.2.2.2.2.2 - sl0 ≤ R.slots) (k : am_K p l e R s m args below meth c Q g mi sz0 sl0 r.1 r.2.1 r.2.2.1 r.2.2.2) : am_K p l e R s m args below meth c Q g mi sz0 sl0 pc ls st H := by
  intro lsC Hc locs hl hL hI hS z1 z2
  obtain ⟨hx, hb, hml, hown, hts, hini, hR, hKn, hB⟩ := C
  replace h : am_iald (pc + 1) ls st H = some r := h
  unfold am_iald at h
  split at h
  · rename_i i a st0
    split at h
    · rename_i t n f ha
      split at h
      · rename_i hc
        obtain ⟨ht, h0, h1⟩ := hc
        cases h
        obtain ⟨cell, q1, q2, q3, q4, q5, q6⟩ := am_iarr hKn (hI.2.2.2 a _ ha).2 ht
        exact W.iald (v := .int (f i.toNatClampNeg)) hx hb q1 q2 q3 (am_in h0 (by omega)) (q6 _ h1) rfl rfl hd (k _ _ _ hl hL hI hS z1 z2)
      · cases h
    · cases h
  · cases h
theorem am_w_alen (C : am_Cx p R s m args meth c g mi sz0) {pc : Nat} {ls : am_L} {st : List Value} {H : am_H} {r : Nat × am_L × List Value × am_H}  (hd : decode mi.2.1 pc = .ok (.arraylength, 1)) (h : am_step g.2.2.2 mi (.arraylength) pc ls st H = some r) (hRm : r.2.2.2.2.1 - sz0 ≤ R.cells ∧ r.2.2.2.2.2 - sl0 ≤ R.slots) (k : am_K p l e R s m args below meth c Q g mi sz0 sl0 r.1 r.2.1 r.2.2.1 r.2.2.2) : am_K p l e R s m args below meth c Q g mi sz0 sl0 pc ls st H := by
  intro lsC Hc locs hl hL hI hS z1 z2
  obtain ⟨hx, hb, hml, hown, hts, hini, hR, hKn, hB⟩ := C
  replace h : am_alen (pc + 1) ls st H = some r := h
  unfold am_alen at h
  split at h
  · rename_i a st0
    split at h
    · rename_i t n f ha
      split at h
      · rename_i ht
        cases h
        obtain ⟨cell, q1, q2, q3, q4, q5, q6⟩ := am_iarr hKn (hI.2.2.2 a _ ha).2 ht
        exact W.alen (n := Int32.ofNat n) hx hb q1 q2 q5 rfl rfl hd (k _ _ _ hl hL hI hS z1 z2)
      · cases h
    · cases h
  · cases h
theorem am_w_iast (C : am_Cx p R s m args meth c g mi sz0) {pc : Nat} {ls : am_L} {st : List Value} {H : am_H} {r : Nat × am_L × List Value × am_H}  (hd : decode mi.2.1 pc = .ok (.iastore, 1)) (h : am_step g.2.2.2 mi (.iastore) pc ls st H = some r) (hRm : r.2.2.2.2.1 - sz0 ≤ R.cells ∧ r.2.2.2.2.2 - sl0 ≤ R.slots) (k : am_K p l e R s m args below meth c Q g mi sz0 sl0 r.1 r.2.1 r.2.2.1 r.2.2.2) : am_K p l e R s m args below meth c Q g mi sz0 sl0 pc ls st H := by
  intro lsC Hc locs hl hL hI hS z1 z2
  obtain ⟨hx, hb, hml, hown, hts, hini, hR, hKn, hB⟩ := C
  replace h : am_iast (pc + 1) ls st H = some r := h
  unfold am_iast at h
  split at h
  · rename_i x i a st0
    split at h
    · rename_i t n f ha
      split at h
      · rename_i hc
        obtain ⟨ht, h0, h1⟩ := hc
        subst ht
        cases h
        have hlt := (hI.2.2.2 a _ ha).1
        rcases (hI.2.2.2 a _ ha).2 with ⟨w1, -⟩ | ⟨-, hBa, hcell⟩
        · exact absurd w1 (by decide)
        · refine W.iast hx hb hcell ((hKn.2.1 0 (by decide)).1 n (fun j => .int (f j))) (fun q => by cases q) (by show ¬ (i < 0 ∨ (arrV _ _ _).slots.size ≤ _); rw [arrV_size]; exact am_in h0 h1) rfl rfl hd fun H1 e1 y1 oq => ?_
          refine k lsC H1 _ hl hL (hI.put y1 oq hBa hlt (Or.inr ⟨by decide, hBa, ?_⟩)) (hS.put y1 oq hBa) z1 z2
          rw [e1, vp_cell_i, vp_cell_i, arrV_store]
          congr 2
          funext q
          by_cases hq : q = i.toNatClampNeg
          · subst hq
            simp [updV, upd]
          · simp [updV, upd, hq]
      · cases h
    · cases h
  · cases h
theorem am_w_aald (C : am_Cx p R s m args meth c g mi sz0) {pc : Nat} {ls : am_L} {st : List Value} {H : am_H} {r : Nat × am_L × List Value × am_H}  (hd : decode mi.2.1 pc = .ok (.aaload, 1)) (h : am_step g.2.2.2 mi (.aaload) pc ls st H = some r) (hRm : r.2.2.2.2.1 - sz0 ≤ R.cells ∧ r.2.2.2.2.2 - sl0 ≤ R.slots) (k : am_K p l e R s m args below meth c Q g mi sz0 sl0 r.1 r.2.1 r.2.2.1 r.2.2.2) : am_K p l e R s m args below meth c Q g mi sz0 sl0 pc ls st H := by
  intro lsC Hc locs hl hL hI hS z1 z2
  obtain ⟨hx, hb, hml, hown, hts, hini, hR, hKn, hB⟩ := C
  replace h : am_aald (pc + 1) ls st H = some r := h
  unfold am_aald at h
  split at h
  · rename_i i a st0
    split at h
    · rename_i t n f ha
      split at h
      · rename_i hc
        obtain ⟨⟨ht0, ht4⟩, h0, h1⟩ := hc
        cases h
        rcases (hI.2.2.2 a _ ha).2 with ⟨w1, -⟩ | ⟨-, hBa, hcell⟩
        · exact absurd w1 (by omega)
        · have hcmp : am_tyA t = .object (am_cn (am_comp t)) := am_tyA_comp ht0 ht4
          have hAr := (hKn.2.1 t ht4).1 n (fun j => va_rf (f j))
          rw [hcmp] at hAr
          exact W.aald (v := va_rf (f i.toNatClampNeg)) (ty := .object (am_cn (am_comp t))) hx hb hcell hAr rfl (fun q => by cases q) (by show ¬ (i < 0 ∨ (arrV _ _ _).slots.size ≤ _); rw [arrV_size]; exact am_in h0 h1) (by show (arrV _ _ _).slots[_]? = _; rw [arrV_read _ _ h1]) rfl rfl hd (k _ _ _ hl hL hI hS z1 z2)
      · cases h
    · cases h
  · cases h
theorem am_w_aast (C : am_Cx p R s m args meth c g mi sz0) {pc : Nat} {ls : am_L} {st : List Value} {H : am_H} {r : Nat × am_L × List Value × am_H}  (hd : decode mi.2.1 pc = .ok (.aastore, 1)) (h : am_step g.2.2.2 mi (.aastore) pc ls st H = some r) (hRm : r.2.2.2.2.1 - sz0 ≤ R.cells ∧ r.2.2.2.2.2 - sl0 ≤ R.slots) (k : am_K p l e R s m args below meth c Q g mi sz0 sl0 r.1 r.2.1 r.2.2.1 r.2.2.2) : am_K p l e R s m args below meth c Q g mi sz0 sl0 pc ls st H := by
  intro lsC Hc locs hl hL hI hS z1 z2
  obtain ⟨hx, hb, hml, hown, hts, hini, hR, hKn, hB⟩ := C
  replace h : am_aast (pc + 1) ls st H = some r := h
  unfold am_aast at h
  split at h
  · rename_i b i a st0
    split at h
    · rename_i t n f ci vs ha hbq
      split at h
      · rename_i hc
        obtain ⟨⟨⟨ht0, ht4⟩, hci⟩, h0, h1⟩ := hc
        cases h
        have hlt := (hI.2.2.2 a _ ha).1
        rcases (hI.2.2.2 a _ ha).2 with ⟨w1, -⟩ | ⟨-, hBa, hcell⟩
        · exact absurd w1 (by omega)
        · have hcmp : am_tyA t = .object (am_cn (am_comp t)) := am_tyA_comp ht0 ht4
          obtain ⟨-, r1, hr1, hlen, cellV, g1, g2, g3, -⟩ := (hI.2.2.2 b _ hbq).2
          obtain ⟨hin, hty, hnm, hcn⟩ := am_clP _ _ hr1
          have hcls := (hKn.1.1 ci _ hr1).2
          have hRA := (hKn.2.1 t ht4).2
          rw [hcmp, ← hci] at hRA
          obtain ⟨kA, comp, k1, k2, k3, -⟩ := hRA
          have hcomp : comp = g.1.1 ci := by
            have h9 := hcls.1
            rw [hcn] at h9
            exact Option.some.inj (k3.symm.trans h9)
          subst hcomp
          obtain ⟨kC, hkC, -⟩ := hcls.2
          refine W.aast hx hb hcell (fun q h => by cases h) (fun h => by cases h) k1 k2 rfl hkC ⟨am_nlt h0, by show _ < (arrV _ _ _).slots.size; rw [arrV_size]; exact h1⟩ g1 (fun q h => by rw [g3] at h; cases h) (by rw [g2]; exact hkC) (by rw [g2]; exact va_assign hcls) rfl rfl hd fun H1 e1 y1 oq => ?_
          refine k lsC H1 _ hl hL (hI.put y1 oq hBa hlt (Or.inr ⟨ht4, hBa, ?_⟩)) (hS.put y1 oq hBa) z1 z2
          rw [e1, vp_cell_q, vp_cell_q, arrV_store]
          congr 2
          funext q
          by_cases hq : q = i.toNatClampNeg
          · subst hq
            simp [updV, va_up, va_rf]
          · simp [updV, va_up, hq]
      · cases h
    · cases h
  · cases h
theorem am_w_objI (C : am_Cx p R s m args meth c g mi sz0) {pc : Nat} {ls : am_L} {st : List Value} {H : am_H} {r : Nat × am_L × List Value × am_H} {cp : Nat} (hd : decode mi.2.1 pc = .ok (.invokespecial cp, 3)) (h : am_step g.2.2.2 mi (.invokespecial cp) pc ls st H = some r) (hRm : r.2.2.2.2.1 - sz0 ≤ R.cells ∧ r.2.2.2.2.2 - sl0 ≤ R.slots) (k : am_K p l e R s m args below meth c Q g mi sz0 sl0 r.1 r.2.1 r.2.2.1 r.2.2.2) : am_K p l e R s m args below meth c Q g mi sz0 sl0 pc ls st H := by
  intro lsC Hc locs hl hL hI hS z1 z2
  obtain ⟨hx, hb, hml, hown, hts, hini, hR, hKn, hB⟩ := C
  replace h : am_objI mi cp pc ls st H = some r := h
  unfold am_objI at h
  split at h
  · rename_i hlk
    unfold am_obj at h
    split at h
    · rename_i a st0
      split at h
      · rename_i hc
        cases h
        have hw := (am_spP _ _ (am_lk _ _ _ hlk)).1 rfl
        have hsum : (st0.map fun v => v.category).sum + 12 ≤ mi.2.2.2.2.2.2 := hc.2
        exact W.objInit hx hb hown (hts _ hw) (hts _ am_wobj1) (hts _ am_wobj2) (g := F0 m pc lsC (.ref a :: st0)) rfl (hl.1.trans (hL.trans hml.symm)) rfl hd (by rw [hR.1]; exact hc.1) (by show 2 * 0 + _ + 12 ≤ _; rw [hR.2]; omega) (k _ _ _ hl hL hI hS z1 z2)
      · cases h
    · cases h
  · cases h
theorem am_w_stat (C : am_Cx p R s m args meth c g mi sz0) {pc : Nat} {ls : am_L} {st : List Value} {H : am_H} {r : Nat × am_L × List Value × am_H} {cp : Nat} (hd : decode mi.2.1 pc = .ok (.invokestatic cp, 3)) (h : am_step g.2.2.2 mi (.invokestatic cp) pc ls st H = some r) (hRm : r.2.2.2.2.1 - sz0 ≤ R.cells ∧ r.2.2.2.2.2 - sl0 ≤ R.slots) (k : am_K p l e R s m args below meth c Q g mi sz0 sl0 r.1 r.2.1 r.2.2.1 r.2.2.2) : am_K p l e R s m args below meth c Q g mi sz0 sl0 pc ls st H := by
  intro lsC Hc locs hl hL hI hS z1 z2
  obtain ⟨hx, hb, hml, hown, hts, hini, hR, hKn, hB⟩ := C
  replace h : am_special mi cp pc ls st H = some r := h
  unfold am_special at h
  split at h
  · rename_i hlk
    unfold am_copy at h
    split at h
    · rename_i n dp a sp a0 st0
      split at h
      · rename_i t0 n0 f t1 n1 f1 ha0 ha
        split at h
        · rename_i hc
          obtain ⟨⟨ht0, ht1⟩, ⟨p1, p2, p3⟩, ⟨p4, p5⟩, p6, p7⟩ := hc
          subst ht0
          subst ht1
          cases h
          have hw := (am_spP _ _ (am_lk _ _ _ hlk)).2.1 rfl
          have hlt := (hI.2.2.2 a _ ha).1
          rcases (hI.2.2.2 a0 _ ha0).2 with ⟨w1, -⟩ | ⟨-, -, hc0⟩
          · exact absurd w1 (by decide)
          rcases (hI.2.2.2 a _ ha).2 with ⟨w1, -⟩ | ⟨-, hBa, hc1⟩
          · exact absurd w1 (by decide)
          have hsum : (st0.map fun v => v.category).sum + 18 ≤ mi.2.2.2.2.2.2 := p7
          exact am_copyW hx hb (hml.trans (hL.symm.trans hl.1.symm)) hown (hts _ hw) (hts _ am_wcp1) (hts _ am_wcp2) (hts _ am_wcp3) (hKn.2.1 0 (by decide)).1 hc0 hc1 (am_nlt p1) (am_nlt p2) (am_nlt p3) p4 p5 (by rw [hR.1]; exact p6) (by rw [hR.2]; exact hsum) hd (fun H1 locs1 e1 y1 oq hlo => k lsC H1 _ hl hL (hI.put y1 oq hBa hlt (Or.inr ⟨by decide, hBa, e1⟩)) ⟨by rw [y1]; exact hS.1, fun q g1 g2 => (oq q (fun e => g2 (by rw [e]; exact hBa))).trans (hS.2.1 q g1 g2), fun q hq => by
            rcases List.mem_append.mp hq with h | h
            · exact hS.2.2 q h
            · rw [hlo q h]; exact hBa⟩ z1 z2)
        · cases h
      · cases h
    · cases h
  · rename_i hlk
    unfold am_min at h
    split at h
    · rename_i y x st0
      split at h
      · rename_i hc
        cases h
        have hw := (am_spP _ _ (am_lk _ _ _ hlk)).2.2.1 rfl
        have hsum : (st0.map fun v => v.category).sum + 13 ≤ mi.2.2.2.2.2.2 := hc.2
        exact va_mmin hx hb (hml.trans (hL.symm.trans hl.1.symm)) hown (hts _ hw) (hts _ am_wmin1) (hts _ am_wmath) (hts _ am_wmin2) (by rw [hR.1]; exact hc.1) (by rw [hR.2]; exact hsum) hRm.1 hRm.2 hd (k _ _ _ hl hL hI hS z1 z2)
      · cases h
    · cases h
  · rename_i hlk
    unfold am_abs at h
    split at h
    · rename_i x st0
      split at h
      · rename_i hc
        cases h
        have hw := (am_spP _ _ (am_lk _ _ _ hlk)).2.2.2 rfl
        have hsum : (st0.map fun v => v.category).sum + 13 ≤ mi.2.2.2.2.2.2 := hc.2
        exact va_mabs hx hb (hml.trans (hL.symm.trans hl.1.symm)) hown (hts _ hw) (hts _ am_wabs1) (hts _ am_wmath) (hts _ am_wabs2) (by rw [hR.1]; exact hc.1) (by rw [hR.2]; exact hsum) hRm.1 hRm.2 hd (k _ _ _ hl hL hI hS z1 z2)
      · cases h
    · cases h
  · cases h
end AMH
end
section
section AMX
variable {p : Program} {l : Launch} {e : Env} {R : Room} {s : State} {m : MethodId} {args : Array Value} {below : List Frame} {meth : Method} {c : Code} {Q : State → Prop} {g : am_g} {mi : am_I} {sz0 sl0 : Nat}
set_option maxHeartbeats 4000000 in
theorem am_step_snd (C : am_Cx p R s m args meth c g mi sz0) {i : Instr} {n0 pc : Nat} {ls : am_L} {st : List Value} {H : am_H} {r : Nat × am_L × List Value × am_H} (hd : decode mi.2.1 pc = .ok (i, n0)) (hn : am_lenOk i n0 = true) (h : am_step g.2.2.2 mi i pc ls st H = some r) (hRm : r.2.2.2.2.1 - sz0 ≤ R.cells ∧ r.2.2.2.2.2 - sl0 ≤ R.slots) (k : am_K p l e R s m args below meth c Q g mi sz0 sl0 r.1 r.2.1 r.2.2.1 r.2.2.2) : am_K p l e R s m args below meth c Q g mi sz0 sl0 pc ls st H := by
  cases i with
  | iconst v => cases (show n0 = 1 by simpa [am_lenOk] using hn); exact am_w_iconst C hd h k
  | bipush v => cases (show n0 = 2 by simpa [am_lenOk] using hn); exact am_w_bipush C hd h k
  | sipush v => cases (show n0 = 3 by simpa [am_lenOk] using hn); exact am_w_sipush C hd h k
  | aconst_null => cases (show n0 = 1 by simpa [am_lenOk] using hn); exact am_w_null C hd h k
  | ldc cp => cases (show n0 = 2 by simpa [am_lenOk] using hn); exact am_w_ldc C hd h k
  | ldc2_w cp => cases (show n0 = 3 by simpa [am_lenOk] using hn); exact am_w_ldc2 C hd h k
  | fconst f => cases (show n0 = 1 by simpa [am_lenOk] using hn); exact am_w_fconst C hd h k
  | iload_n i => cases (show n0 = 1 by simpa [am_lenOk] using hn); exact am_w_iload_n C hd h k
  | lload_n i => cases (show n0 = 1 by simpa [am_lenOk] using hn); exact am_w_lload_n C hd h k
  | iload i => cases (show n0 = 2 by simpa [am_lenOk] using hn); exact am_w_iload C hd h k
  | lload i => cases (show n0 = 2 by simpa [am_lenOk] using hn); exact am_w_lload C hd h k
  | dload i => cases (show n0 = 2 by simpa [am_lenOk] using hn); exact am_w_dload C hd h k
  | aload_n i => cases (show n0 = 1 by simpa [am_lenOk] using hn); exact am_w_aload_n C hd h k
  | aload i => cases (show n0 = 2 by simpa [am_lenOk] using hn); exact am_w_aload C hd h k
  | istore_n i => cases (show n0 = 1 by simpa [am_lenOk] using hn); exact am_w_istore_n C hd h k
  | istore i => cases (show n0 = 2 by simpa [am_lenOk] using hn); exact am_w_istore C hd h k
  | lstore_n i => cases (show n0 = 1 by simpa [am_lenOk] using hn); exact am_w_lstore_n C hd h k
  | lstore i => cases (show n0 = 2 by simpa [am_lenOk] using hn); exact am_w_lstore C hd h k
  | dstore i => cases (show n0 = 2 by simpa [am_lenOk] using hn); exact am_w_dstore C hd h k
  | astore_n i => cases (show n0 = 1 by simpa [am_lenOk] using hn); exact am_w_astore_n C hd h k
  | astore i => cases (show n0 = 2 by simpa [am_lenOk] using hn); exact am_w_astore C hd h k
  | iinc i v => cases (show n0 = 3 by simpa [am_lenOk] using hn); exact am_w_iinc C hd h k
  | iadd => cases (show n0 = 1 by simpa [am_lenOk] using hn); exact am_w_iadd C hd h k
  | isub => cases (show n0 = 1 by simpa [am_lenOk] using hn); exact am_w_isub C hd h k
  | imul => cases (show n0 = 1 by simpa [am_lenOk] using hn); exact am_w_imul C hd h k
  | iand => cases (show n0 = 1 by simpa [am_lenOk] using hn); exact am_w_iand C hd h k
  | ior => cases (show n0 = 1 by simpa [am_lenOk] using hn); exact am_w_ior C hd h k
  | ixor => cases (show n0 = 1 by simpa [am_lenOk] using hn); exact am_w_ixor C hd h k
  | ishl => cases (show n0 = 1 by simpa [am_lenOk] using hn); exact am_w_ishl C hd h k
  | ishr => cases (show n0 = 1 by simpa [am_lenOk] using hn); exact am_w_ishr C hd h k
  | idiv => cases (show n0 = 1 by simpa [am_lenOk] using hn); exact am_w_idiv C hd h k
  | irem => cases (show n0 = 1 by simpa [am_lenOk] using hn); exact am_w_irem C hd h k
  | ladd => cases (show n0 = 1 by simpa [am_lenOk] using hn); exact am_w_ladd C hd h k
  | lmul => cases (show n0 = 1 by simpa [am_lenOk] using hn); exact am_w_lmul C hd h k
  | lcmp => cases (show n0 = 1 by simpa [am_lenOk] using hn); exact am_w_lcmp C hd h k
  | ldiv => cases (show n0 = 1 by simpa [am_lenOk] using hn); exact am_w_ldiv C hd h k
  | ineg => cases (show n0 = 1 by simpa [am_lenOk] using hn); exact am_w_ineg C hd h k
  | i2l => cases (show n0 = 1 by simpa [am_lenOk] using hn); exact am_w_i2l C hd h k
  | l2i => cases (show n0 = 1 by simpa [am_lenOk] using hn); exact am_w_l2i C hd h k
  | l2f => cases (show n0 = 1 by simpa [am_lenOk] using hn); exact am_w_l2f C hd h k
  | i2f => cases (show n0 = 1 by simpa [am_lenOk] using hn); exact am_w_i2f C hd h k
  | f2d => cases (show n0 = 1 by simpa [am_lenOk] using hn); exact am_w_f2d C hd h k
  | fdiv => cases (show n0 = 1 by simpa [am_lenOk] using hn); exact am_w_fdiv C hd h k
  | dcmp op => cases (show n0 = 1 by simpa [am_lenOk] using hn); exact am_w_dcmp C hd h k
  | dup => cases (show n0 = 1 by simpa [am_lenOk] using hn); exact am_w_dup C hd h k
  | dup2 => cases (show n0 = 1 by simpa [am_lenOk] using hn); exact am_w_dup2 C hd h k
  | ifCond q off => cases (show n0 = 3 by simpa [am_lenOk] using hn); exact am_w_ifCond C hd h k
  | if_icmp q off => cases (show n0 = 3 by simpa [am_lenOk] using hn); exact am_w_icmp C hd h k
  | ifnonnull off => cases (show n0 = 3 by simpa [am_lenOk] using hn); exact am_w_ifnn C hd h k
  | goto off => cases (show n0 = 3 by simpa [am_lenOk] using hn); exact am_w_goto C hd h k
  | getfield cp => cases (show n0 = 3 by simpa [am_lenOk] using hn); exact am_w_getf C hd h hRm k
  | putfield cp => cases (show n0 = 3 by simpa [am_lenOk] using hn); exact am_w_putf C hd h hRm k
  | getstatic cp => cases (show n0 = 3 by simpa [am_lenOk] using hn); exact am_w_gets C hd h hRm k
  | new cp => cases (show n0 = 3 by simpa [am_lenOk] using hn); exact am_w_new C hd h hRm k
  | newarray t => cases (show n0 = 2 by simpa [am_lenOk] using hn); exact am_w_newa C hd h hRm k
  | anewarray cp => cases (show n0 = 3 by simpa [am_lenOk] using hn); exact am_w_anew C hd h hRm k
  | iaload => cases (show n0 = 1 by simpa [am_lenOk] using hn); exact am_w_iald C hd h hRm k
  | arraylength => cases (show n0 = 1 by simpa [am_lenOk] using hn); exact am_w_alen C hd h hRm k
  | iastore => cases (show n0 = 1 by simpa [am_lenOk] using hn); exact am_w_iast C hd h hRm k
  | aaload => cases (show n0 = 1 by simpa [am_lenOk] using hn); exact am_w_aald C hd h hRm k
  | aastore => cases (show n0 = 1 by simpa [am_lenOk] using hn); exact am_w_aast C hd h hRm k
  | invokespecial cp => cases (show n0 = 3 by simpa [am_lenOk] using hn); exact am_w_objI C hd h hRm k
  | invokestatic cp => cases (show n0 = 3 by simpa [am_lenOk] using hn); exact am_w_stat C hd h hRm k
  | tableswitch d lo hi offs => exact am_w_tsw C hd h k
  | lookupswitch d ps => exact am_w_lsw C hd h k
  | _ => exact absurd h (by simp [am_step])
theorem am_mono (sA : Nat) : ∀ (n : Nat) (mi : am_I) (pc : Nat) (ls : am_L) (st : List Value) (H : am_H) (r : Option Value) (H' : am_H), am_exec sA n mi pc ls st H = some (r, H') → H.2.1 ≤ H'.2.1 ∧ H.2.2 ≤ H'.2.2
  | 0, _, _, _, _, _, _, _, h => by simp [am_exec] at h
  | n + 1, mi, pc, ls, st, H, r, H', h => by
    unfold am_exec at h
    split at h
    · cases h
    · split at h
      · split at h
        · cases h
          exact ⟨Nat.le_refl _, Nat.le_refl _⟩
        · split at h
          · split at h
            · split at h
              · rename_i r1 H1 h1
                have a := am_mono sA n _ _ _ _ _ _ _ h1
                have b := am_mono sA n _ _ _ _ _ _ _ h
                exact ⟨Nat.le_trans a.1 b.1, Nat.le_trans a.2 b.2⟩
              · cases h
            · cases h
          · split at h
            · split at h
              · rename_i q
                have b := am_mono sA n _ _ _ _ _ _ _ h
                exact ⟨Nat.le_trans q.1 b.1, Nat.le_trans q.2 b.2⟩
              · cases h
            · cases h
      · cases h
theorem am_ret_len {i : Instr} {n0 : Nat} {st : List Value} {r : Option Value} (h : am_ret mi i st = some r) (hn : am_lenOk i n0 = true) : n0 = 1 := by
  unfold am_ret at h
  split at h <;> first | (simpa [am_lenOk] using hn) | cases h
theorem am_ofW {y : MethodName} {ws ws' : List Jvm.Cond} {rm : Room} {Pc : Array Value → State → Prop} {Qc : Array Value → State → Outcome → State → Prop} {mc ms : Nat} {free : Addr → Prop} {cc : ByteArray} {maxL : Nat} {ret : Option FieldType}
    (hy : plainFor y = true) (hw : ws = Jvm.Cond.code y cc maxL ret :: ws')
    (body : ∀ p e s m args below meth c s₁, BodyLoose p l y (headSpec ws rm) cc maxL ret e s m args below meth c s₁ → c.maxLocals = maxL → Pc args s →
      W p l e (headSpec ws rm).room s m args below meth c s.heap [] 0 0 (MQ below Qc args s mc ms free) (entryFrame m args maxL)) : Met l y ws rm Pc Qc mc ms free := by
  refine MetFree.of_bodySF (code := cc) (maxLocals := maxL) (ret := ret) hy ?_ ?_
  · intro args s m h hn
    obtain ⟨meth, c, h1, h2, h3, h4, h5, h6, -, -⟩ := Cond.code_spec hn (atoms_spec (ws := ws) h _ (by rw [hw]; exact List.mem_cons_self))
    exact ⟨meth, c, h1, h2, h3, h4, h5, h6⟩
  · intro p e s m args below meth c s₁ B hml hP _
    have hh0 : s₁.heap = s.heap := by rw [B.state]; rfl
    obtain ⟨t, a1, o, b1, b2, b3⟩ := body p e s m args below meth c s₁ B hml hP s₁ hh0 (Stand.of_body B)
    exact ⟨t, o, a1, b1, b2, ⟨b3.1, b3.2⟩⟩
def am_Pc (g : am_g) (As : List Value) (H : am_H) : Array Value → State → Prop := va_Pc As (fun U => am_Inv g U H U.heap ∧ am_Kn g U)
def am_Qc (g : am_g) (r : Option Value) (H' : am_H) : Array Value → State → Outcome → State → Prop := fun _ st o t => o = .returned r ∧ am_Inv g t H' t.heap ∧ va_F (fun q => g.2.2.1 ≤ q) st t
theorem am_blind (g : am_g) (As : List Value) (H : am_H) : FrameBlind (am_Pc g As H) := by
  rintro a U fr mk ⟨h1, h2, h3⟩
  exact ⟨h1, am_Inv.moved (u := U) (U := U.calling fr mk a) (Vm.Alike.refl U.vm) h2, am_Kn.same (u := U) (U := U.calling fr mk a) rfl h3⟩
theorem am_callK {rest st0 : List Value} {Hc : Heap} {locs : List Loc} {cells slots mc ms pc : Nat} {lsC : Array Slot} {r : Option Value} {H1 : am_H} {a : Array Value} (hr : va_Run p l e R s m args below meth c Hc locs cells slots mc ms (F0 m pc lsC st0) rest (am_Qc g r H1 a) (fun q => g.2.2.1 ≤ q)) (hS : va_S (fun q => g.2.2.1 ≤ q) s.heap Hc locs)
    (kk : ∀ (Hc1 : Heap) (locs1 : List Loc), am_Inv g s H1 Hc1 → va_S (fun q => g.2.2.1 ≤ q) s.heap Hc1 locs1 → W p l e R s m args below meth c Hc1 locs1 (cells + mc) (slots + ms) Q (F0 m (pc + 3) lsC (r.toList ++ rest))) : W p l e R s m args below meth c Hc locs cells slots Q (F0 m pc lsC st0) := by
  intro T hT X
  obtain ⟨v, st₀, t, T', L, h0, X', hL, e1, e2, ⟨hv, hI, hz, hk⟩, st⟩ := hr T hT X
  cases hv
  rw [h0] at hz hk
  have hal : s.vm.Alike t.vm := by rw [← e2]; exact X'.warmed.alike
  obtain ⟨t2, a1, b1⟩ := kk T'.heap (locs ++ L) (by rw [e1]; exact hI.moved hal.symm) ⟨Nat.le_trans hS.1 (by rw [e1]; exact hz), fun q h1 h2 => by rw [e1, hk q (Nat.lt_of_lt_of_le h1 hS.1) h2]; exact hS.2.1 q h1 h2, fun q hq => by
      rcases List.mem_append.mp hq with h | h
      · exact hS.2.2 q h
      · exact hL q h⟩ T' rfl X'
  exact ⟨t2, st t2 a1, b1⟩
theorem am_flat_sl : ∀ vs : List Value, am_flat vs = (lg_sl vs).map (fun x => match x with | .val v => some v | _ => none)
  | [] => rfl
  | v :: vs => by
    have ih := am_flat_sl vs
    unfold am_flat lg_sl at ih ⊢
    rw [List.flatMap_cons, List.flatMap_cons, List.map_append, ← ih]
    congr 1
    by_cases h : v.category = 2 <;> simp [h]
theorem am_entry_len {vs : List Value} {n : Nat} (h : (am_flat vs).length ≤ n) : (am_entry vs n).length = n := by
  unfold am_entry
  rw [List.length_append, List.length_replicate]
  omega
theorem am_entry_has {vs : List Value} {n : Nat} (h : (am_flat vs).length ≤ n) : am_Has ((lg_sl vs ++ List.replicate (n - (lg_sl vs).length) Slot.unset).toArray) (am_entry vs n) := by
  have e : (am_flat vs).length = (lg_sl vs).length := by rw [am_flat_sl, List.length_map]
  have hl := lv_entry vs (n := n) (by omega)
  refine ⟨by rw [am_entry_len h]; exact hl.1, hl.2.1, fun q hq => ?_⟩
  have hq := am_al_mem.mp hq
  unfold am_entry at hq
  rw [List.getElem?_toArray]
  by_cases hlt : q.1 < (am_flat vs).length
  · rw [List.getElem?_append_left hlt, am_flat_sl, List.getElem?_map] at hq
    rw [List.getElem?_append_left (by omega)]
    cases hx : (lg_sl vs)[q.1]? with
    | none => rw [hx] at hq; cases hq
    | some x =>
      rw [hx] at hq
      cases x with
      | val v => simp at hq; rw [hq]
      | second => simp at hq
      | unset => simp at hq
  · rw [List.getElem?_append_right (by omega), List.getElem?_replicate] at hq
    split at hq
    · cases hq
    · cases hq
end AMX
end
section
section AMZ
variable {l : Launch} {g : am_g}
/-- what the soundness says at a fuel -/
def am_SND (l : Launch) (g : am_g) (n : Nat) : Prop := ∀ (mi : am_I) (pc : Nat) (ls : am_L) (st : List Value) (H : am_H) (r : Option Value) (H' : am_H), am_exec g.2.2.2 n mi pc ls st H = some (r, H') → ∀ (p : Program) (e : Env) (R : Room) (s : State) (m : MethodId) (args : Array Value) (below : List Frame) (meth : Method) (c : Code) (Q : State → Prop) (sz0 sl0 : Nat), am_Cx p R s m args meth c g mi sz0 → (H'.2.1 - sz0 ≤ R.cells ∧ H'.2.2 - sl0 ≤ R.slots) →
  (∀ (i : Instr) (pc' : Nat) (ls' : am_L) (st' : List Value), decode mi.2.1 pc' = .ok (i, 1) → am_ret mi i st' = some r → am_K p l e R s m args below meth c Q g mi sz0 sl0 pc' ls' st' H') → am_K p l e R s m args below meth c Q g mi sz0 sl0 pc ls st H
def am_rm (mj : am_I) (H H' : am_H) : Room := { frames := mj.2.2.2.2.2.1, cells := H'.2.1 - H.2.1, slots := H'.2.2 - H.2.2, locals := mj.2.2.2.2.2.2 }
def am_ws (mj : am_I) : List Jvm.Cond := Jvm.Cond.code mj.2.2.1 mj.2.1 mj.2.2.2.1 mj.2.2.2.2.1 :: wsL_law
theorem am_endK {p : Program} {e : Env} {R : Room} {s : State} {m : MethodId} {args : Array Value} {below : List Frame} {meth : Method} {c : Code} {mi : am_I} {sz0 sl0 : Nat} {r : Option Value} {H' : am_H} (hx : p.tables.exec = Jvm.exec) (hb : c.code = mi.2.1) (hr : meth.sig.returnType = mi.2.2.2.2.1) (hlocks : meth.locks = false) {i : Instr} {pc : Nat} {ls : am_L} {st : List Value} (hd : decode mi.2.1 pc = .ok (i, 1)) (h : am_ret mi i st = some r) :
    am_K p l e R s m args below meth c (MQ below (am_Qc g r H') args s (H'.2.1 - sz0) (H'.2.2 - sl0) (fun q => g.2.2.1 ≤ q)) g mi sz0 sl0 pc ls st H' := by
  intro lsC Hc locs hl hL hI hS z1 z2
  have hq : ∀ t : State, t.heap = Hc → s.WarmedH t.vm → am_Qc g r H' args s (.returned r) t := fun t ht hW => ⟨rfl, by rw [ht]; exact hI.moved hW.alike, hS.F ht⟩
  unfold am_ret at h
  split at h
  · split at h
    · rename_i hty
      cases h
      exact W.iret hx hb (hr.trans hty) hq hS.2.2 hd hlocks
    · rename_i hty
      split at h
      · rename_i hv
        cases h
        exact W.zret hx hb (hr.trans hty) (by rcases hv with rfl | rfl <;> rfl) hq hS.2.2 hd hlocks
      · cases h
    · cases h
  · split at h
    · rename_i hty
      cases h
      exact W.lret hx hb (hr.trans hty) hq hS.2.2 hd hlocks
    · cases h
  · split at h
    · rename_i hty
      cases h
      exact W.fret hx hb (hr.trans hty) hq hS.2.2 hd hlocks
    · cases h
  · split at h
    · rename_i nm hty
      cases h
      exact W.aret hx hb (hr.trans hty) (Or.inl ⟨_, rfl⟩) (Or.inr ⟨_, rfl⟩) hq hS.2.2 hd hlocks
    · cases h
  · split at h
    · rename_i hty
      cases h
      exact W.vret hx hb (hr.trans hty) hq hS.2.2 hd hlocks
    · cases h
  · cases h
theorem am_met {n : Nat} (ih : am_SND l g n) {mj : am_I} (hO : am_MO mj) {As : List Value} {H : am_H} {r : Option Value} {H' : am_H} (hf : (am_flat As).length ≤ mj.2.2.2.1) (h : am_exec g.2.2.2 n mj 0 (am_entry As mj.2.2.2.1) [] H = some (r, H')) : Met l mj.2.2.1 (am_ws mj) (am_rm mj H H') (am_Pc g As H) (am_Qc g r H') (H'.2.1 - H.2.1) (H'.2.2 - H.2.2) (fun q => g.2.2.1 ≤ q) := by
  refine am_ofW (cc := mj.2.1) (maxL := mj.2.2.2.1) (ret := mj.2.2.2.2.1) hO.2.1 rfl ?_
  intro p e s m args below meth c s₁ B hml hv
  obtain ⟨rfl, hI, hKn⟩ := hv
  have hts : ∀ w ∈ am_ws mj, w.before As.toArray s = true := atoms_spec (ws := am_ws mj) B.pre
  have hown : s.vm.findClass (am_cn mj.1) = some m.cls := by
    rw [hO.2.2.2.2]
    exact findClass_of_methodNamed B.named
  rw [lg_entry_eq]
  have hm := am_mono _ _ _ _ _ _ _ _ _ h
  have k := ih mj 0 _ [] H r H' h p e (am_rm mj H H') s m As.toArray below meth c (MQ below (am_Qc g r H') As.toArray s (H'.2.1 - H.2.1) (H'.2.2 - H.2.2) (fun q => g.2.2.1 ≤ q)) H.2.1 H.2.2
    ⟨B.exec, B.bytes, hml, hown, fun w hw => hts w (List.mem_cons_of_mem _ hw), fun hi => by
      have h1 := (name_of_methodNamed B.named B.method).1
      rw [h1]
      unfold am_ini at hi
      exact beq_iff_eq.mp hi, ⟨rfl, rfl⟩, hKn, by rw [hI.1]; exact hI.2.1⟩ ⟨Nat.le_refl _, Nat.le_refl _⟩
    (fun i pc' ls' st' hd hret => am_endK B.exec B.bytes B.returns B.notSynchronized hd hret)
  have k := k _ s.heap [] (am_entry_has hf) (am_entry_len hf) hI va_S.rf (Nat.le_refl _) (Nat.le_refl _)
  rw [Nat.sub_self, Nat.sub_self] at k
  exact k
theorem am_goodIn (mj : am_I) (hO : am_MO mj) : GoodIn wsL_law (am_ws mj) := by
  intro w hw
  rcases List.mem_cons.mp hw with h | h
  · subst h
    exact ⟨hO.1, Or.inl rfl⟩
  · exact ⟨h, am_good w h⟩
theorem am_callS_inv {mi mj mk : am_I} {k n : Nat} {st As rest : List Value} {H : am_H} (h : am_callS mi k n mj st H = some (mk, As, rest)) : mk = mj ∧ (mj.2.2.2.2.2.1 + 1 ≤ mi.2.2.2.2.2.1 ∧ 8 + (mj.2.2.2.1 + 11) + mj.2.2.2.2.2.2 ≤ mi.2.2.2.2.2.2) ∧ am_cat rest ≤ 8 ∧
    (((k = 1 ∨ k = 4) ∧ As.length = n ∧ st = As.reverse ++ rest) ∨ (¬ (k = 1 ∨ k = 4) ∧ ∃ (b : Nat) (Bs : List Value), As = .ref b :: Bs ∧ Bs.length = n ∧ st = Bs.reverse ++ .ref b :: rest ∧ (k = 0 → ∃ ci fs, H.1 b = some (.inr (ci, fs)) ∧ ci = mj.1))) := by
  unfold am_callS at h
  dsimp only at h
  split at h
  · rename_i q
    obtain ⟨q1, q2, q3⟩ := q
    have e : st = ((st.take n).reverse).reverse ++ st.drop n := by rw [List.reverse_reverse, List.take_append_drop]
    split at h
    · rename_i hk
      split at h
      · cases h
        exact ⟨rfl, ⟨q2, q3⟩, by assumption, Or.inl ⟨hk, q1, e⟩⟩
      · cases h
    · rename_i hk
      split at h
      · rename_i b rest' hdrop
        rw [hdrop] at e
        split at h
        · rename_i hc
          split at h
          · rename_i hk0
            split at h
            · rename_i ci fs hb
              split at h
              · rename_i hci
                cases h
                exact ⟨rfl, ⟨q2, q3⟩, hc, Or.inr ⟨hk, b, _, rfl, q1, e, fun _ => ⟨ci, fs, hb, hci⟩⟩⟩
              · cases h
            · cases h
          · rename_i hk0
            cases h
            exact ⟨rfl, ⟨q2, q3⟩, hc, Or.inr ⟨hk, b, _, rfl, q1, e, fun z => absurd z hk0⟩⟩
        · cases h
      · cases h
  · cases h
theorem am_lenI {i : Instr} {n0 : Nat} {cp : Nat} (hi : i = .invokevirtual cp ∨ i = .invokestatic cp ∨ i = .invokespecial cp) (hn : am_lenOk i n0 = true) : n0 = 3 := by
  rcases hi with rfl | rfl | rfl <;> simpa [am_lenOk] using hn
set_option maxHeartbeats 4000000 in
theorem am_callW {n : Nat} (ih : am_SND l g n) {p : Program} {e : Env} {R : Room} {s : State} {m : MethodId} {args : Array Value} {below : List Frame} {meth : Method} {c : Code} {Q : State → Prop} {mi : am_I} {sz0 sl0 : Nat} (C : am_Cx p R s m args meth c g mi sz0) {i : Instr} {n0 pc : Nat} {ls : am_L} {st : List Value} {H : am_H} (hd : decode mi.2.1 pc = .ok (i, n0)) (hn : am_lenOk i n0 = true) {mj : am_I} {As rest : List Value} (hc : am_call mi i st H = some (mj, As, rest)) (hf : (am_flat As).length ≤ mj.2.2.2.1) {r1 : Option Value} {H1 : am_H} (h1 : am_exec g.2.2.2 n mj 0 (am_entry As mj.2.2.2.1) [] H = some (r1, H1)) (hRm : H1.2.1 - sz0 ≤ R.cells ∧ H1.2.2 - sl0 ≤ R.slots)
    (k : am_K p l e R s m args below meth c Q g mi sz0 sl0 (pc + 3) ls (r1.toList ++ rest) H1) : am_K p l e R s m args below meth c Q g mi sz0 sl0 pc ls st H := by
  intro lsC Hc locs hl hL hI hS z1 z2
  obtain ⟨hx, hb, hml, hown, hts, hini, hR, hKn, hB⟩ := C
  have hm := am_mono _ _ _ _ _ _ _ _ _ h1
  have kk : ∀ (Hc1 : Heap) (locs1 : List Loc), am_Inv g s H1 Hc1 → va_S (fun q => g.2.2.1 ≤ q) s.heap Hc1 locs1 → W p l e R s m args below meth c Hc1 locs1 ((H.2.1 - sz0) + (H1.2.1 - H.2.1)) ((H.2.2 - sl0) + (H1.2.2 - H.2.2)) Q (F0 m (pc + 3) lsC (r1.toList ++ rest)) := by
    intro Hc1 locs1 hI1 hS1
    have k := k lsC Hc1 locs1 hl hL hI1 hS1 (by omega) (by omega)
    rw [show (H.2.1 - sz0) + (H1.2.1 - H.2.1) = H1.2.1 - sz0 by omega, show (H.2.2 - sl0) + (H1.2.2 - H.2.2) = H1.2.2 - sl0 by omega]
    exact k
  have hfit : (H.2.1 - sz0) + (H1.2.1 - H.2.1) ≤ R.cells ∧ (H.2.2 - sl0) + (H1.2.2 - H.2.2) ≤ R.slots := ⟨by omega, by omega⟩
  have hsize : lsC.size = c.maxLocals := hl.1.trans (hL.trans hml.symm)
  have hPU : ∀ U : State, U.heap = Hc → s.WarmedH U.vm → am_Pc g As H As.toArray U := fun U hU hW => ⟨rfl, by rw [hU]; exact hI.moved hW.alike, hKn.moved hW⟩
  unfold am_call at hc
  split at hc
  · -- invokevirtual
    rename_i cp
    have e3 := am_lenI (cp := cp) (Or.inl rfl) hn
    subst e3
    split at hc
    · rename_i kd nn mq hlk
      split at hc
      · rename_i hk0
        subst hk0
        obtain ⟨e1, hroom, hcat, hcase⟩ := am_callS_inv hc
        subst e1
        obtain ⟨hO, hw1, -, hw3, hw4, -, -, hn8⟩ := am_callP _ _ (am_lk _ _ _ hlk)
        dsimp only at hO hw1 hw3 hw4 hn8
        rcases hcase with ⟨hz, -⟩ | ⟨-, b, Bs, hAs, hBs, hst, hrecv⟩
        · rcases hz with hz | hz <;> cases hz
        · obtain ⟨ci, fs, hHb, hci⟩ := hrecv rfl
          subst hAs
          subst hst
          obtain ⟨-, r0, hr0, hlen, hob⟩ := (hI.2.2.2 b _ hHb).2
          have hcl := (am_clP _ _ hr0).2.2.2
          have hM := am_met ih hO hf h1
          have hrc := va_recv (q0 := 0) hKn.1 (am_one hr0 hob) hr0 rfl
          rw [hcl, hci, hO.2.2.2.2] at hrc
          exact am_callK (va_runV (As := Bs) (rest := rest) ⟨hx, hb, hml, hown, hts⟩ hM ⟨callB_of nn hts (am_goodIn _ hO) rfl rfl rfl (hts _ hO.2.2.2.1) (hts _ (hw1 (by decide))) ⟨hO.2.2.1.1, hO.2.2.1.2, hn8⟩ ⟨by rw [hR.1]; exact hroom.1, by rw [hR.2]; exact hroom.2⟩, hts _ (hw3 (by decide)), hts _ (hw4 rfl)⟩ ⟨am_blind g _ H, hrc, hPU⟩ rfl hBs (hsize.trans hml) rfl (lv_room hcat) hd hfit) hS kk
      · cases hc
    · cases hc
  · -- invokestatic
    rename_i cp
    have e3 := am_lenI (cp := cp) (Or.inr (Or.inl rfl)) hn
    subst e3
    split at hc
    · rename_i kd nn mq hlk
      split at hc
      · rename_i hk0
        obtain ⟨e1, hroom, hcat, hcase⟩ := am_callS_inv hc
        subst e1
        obtain ⟨hO, hw1, hw2, -, -, hw5, -, hn8⟩ := am_callP _ _ (am_lk _ _ _ hlk)
        dsimp only at hO hw1 hw2 hw5 hn8
        rcases hcase with ⟨-, hAn, hst⟩ | ⟨hz, -⟩
        · subst hst
          have hM := am_met ih hO hf h1
          rcases hk0 with hk | hk
          · subst hk
            exact am_callK (va_runS (As := As) (rest := rest) ⟨hx, hb, hml, hown, hts⟩ hM ⟨callB_of nn hts (am_goodIn _ hO) rfl rfl rfl (hts _ hO.2.2.2.1) (hts _ (hw1 (by decide))) ⟨hO.2.2.1.1, hO.2.2.1.2, hn8⟩ ⟨by rw [hR.1]; exact hroom.1, by rw [hR.2]; exact hroom.2⟩, hts _ (hw5 (Or.inl rfl))⟩ ⟨am_blind g _ H, hPU⟩ rfl hAn (hsize.trans hml) rfl (lv_room hcat) hd hfit) hS kk
          · subst hk
            exact am_callK (va_runSN (As := As) (rest := rest) ⟨hx, hb, hml, hown, hts⟩ hM ⟨va_cnB nn hts (am_goodIn _ hO) rfl rfl rfl (hKn.2.2.2 _ (hw2 (by decide))) (hts _ hO.2.2.2.1) ⟨hO.2.2.1.1, hO.2.2.1.2, hn8⟩ ⟨by rw [hR.1]; exact hroom.1, by rw [hR.2]; exact hroom.2⟩, hts _ (hw5 (Or.inr rfl)), trivial⟩ ⟨am_blind g _ H, hPU⟩ rfl hAn (hsize.trans hml) rfl (lv_room hcat) hd hfit) hS kk
        · exact absurd hk0 hz
      · cases hc
    · cases hc
  · -- invokespecial
    rename_i cp
    have e3 := am_lenI (cp := cp) (Or.inr (Or.inr rfl)) hn
    subst e3
    split at hc
    · rename_i kd nn mq hlk
      split at hc
      · rename_i hk0
        obtain ⟨e1, hroom, hcat, hcase⟩ := am_callS_inv hc
        subst e1
        obtain ⟨hO, hw1, hw2, hw3, -, -, hw6, hn8⟩ := am_callP _ _ (am_lk _ _ _ hlk)
        dsimp only at hO hw1 hw2 hw3 hw6 hn8
        rcases hcase with ⟨hz, -⟩ | ⟨-, b, Bs, hAs, hBs, hst, -⟩
        · rcases hz with hz | hz <;> rcases hk0 with hk | hk <;> omega
        · subst hAs
          subst hst
          have hM := am_met ih hO hf h1
          obtain ⟨hname, hret⟩ := hw6 hk0
          have hG := am_goodIn _ hO
          have hW8 : am_ws mj = Jvm.Cond.code mj.2.2.1 mj.2.1 mj.2.2.2.1 none :: wsL_law := by unfold am_ws; rw [hret]
          rcases hk0 with hk | hk
          · subst hk
            exact am_callK (va_runI (As := Bs) (rest := rest) ⟨hx, hb, hml, hown, hts⟩ hM ⟨callB_of nn hts hG hW8 rfl rfl (hts _ hO.2.2.2.1) (hts _ (hw1 (by decide))) ⟨hO.2.2.1.1, hO.2.2.1.2, hn8⟩ ⟨by rw [hR.1]; exact hroom.1, by rw [hR.2]; exact hroom.2⟩, hname, hts _ (hw3 (by decide))⟩ ⟨am_blind g _ H, hPU⟩ rfl hBs (hsize.trans hml) rfl (lv_room hcat) hd hfit) hS kk
          · subst hk
            exact am_callK (va_runIN (As := Bs) (rest := rest) ⟨hx, hb, hml, hown, hts⟩ hM ⟨va_cnB nn hts hG hW8 rfl rfl (hKn.2.2.2 _ (hw2 (by decide))) (hts _ hO.2.2.2.1) ⟨hO.2.2.1.1, hO.2.2.1.2, hn8⟩ ⟨by rw [hR.1]; exact hroom.1, by rw [hR.2]; exact hroom.2⟩, hname, hts _ (hw3 (by decide))⟩ ⟨am_blind g _ H, hPU⟩ rfl hBs (hsize.trans hml) rfl (lv_room hcat) hd hfit) hS kk
      · cases hc
    · cases hc
  · cases hc
theorem am_snd (l : Launch) (g : am_g) : ∀ n : Nat, am_SND l g n
  | 0 => by
    intro mi pc ls st H r H' h
    simp [am_exec] at h
  | n + 1 => by
    intro mi pc ls st H r H' h p e R s m args below meth c Q sz0 sl0 C hRm kr
    have ih := am_snd l g n
    unfold am_exec at h
    split at h
    · cases h
    · rename_i i n0 hd
      split at h
      · rename_i hn
        split at h
        · rename_i r0 hret
          cases h
          have e1 := am_ret_len hret hn
          subst e1
          exact kr i pc ls st hd hret
        · split at h
          · rename_i mj As rest hc
            split at h
            · rename_i hf
              split at h
              · rename_i r1 H1 h1
                have hm := am_mono _ _ _ _ _ _ _ _ _ h
                exact am_callW ih C hd hn hc hf h1 ⟨by omega, by omega⟩ (ih mi _ _ _ _ _ _ h p e R s m args below meth c Q sz0 sl0 C hRm kr)
              · cases h
            · cases h
          · split at h
            · rename_i pc' ls' st' H1 hs
              split at h
              · have hm := am_mono _ _ _ _ _ _ _ _ _ h
                exact am_step_snd C hd hn hs ⟨by dsimp only; omega, by dsimp only; omega⟩ (ih mi _ _ _ _ _ _ h p e R s m args below meth c Q sz0 sl0 C hRm kr)
              · cases h
            · cases h
      · cases h
end AMZ
end
