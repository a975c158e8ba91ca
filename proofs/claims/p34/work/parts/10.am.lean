def am_cn : Nat → String := fun c => match c with
  | 0 => RX0
  | 1 => RX1
  | 2 => RX2
  | 3 => RX3
  | 4 => RX4
  | 5 => RX5
  | 6 => RX6
  | 7 => RX7
  | 8 => RX8
  | 9 => RX9
  | 10 => RX10
  | 11 => RX11
  | 12 => RX12
  | 13 => RJ9
  | _ => RL
def am_tys : Nat → Nat → FieldType := fun c => match c with
  | 0 => tyX0
  | 1 => tyX1
  | 2 => tyX2
  | 3 => tyX3
  | 4 => tyX4
  | 5 => tyX5
  | 6 => tyX6
  | 7 => tyX7
  | 8 => tyX8
  | 9 => tyX9
  | 10 => tyX10
  | 11 => tyX11
  | _ => tyX12
def am_fldL : Nat → List (Nat × Nat × Nat) := fun c => match c with
  | 0 => [(9, 0, 0), (19, 0, 1), (23, 0, 2)]
  | 1 => [(11, 1, 0), (18, 1, 1), (22, 1, 2)]
  | 2 => [(11, 2, 0), (17, 2, 2), (29, 2, 1)]
  | 3 => [(9, 3, 0), (15, 3, 1)]
  | 4 => [(12, 4, 0), (18, 4, 1), (21, 4, 2), (24, 4, 3), (30, 10, 4), (63, 10, 0), (65, 10, 1), (67, 5, 4)]
  | 5 => [(9, 5, 0), (15, 5, 1), (18, 5, 2), (28, 5, 3), (31, 5, 4), (56, 10, 0), (62, 10, 1), (65, 10, 2), (68, 10, 4), (71, 10, 5), (74, 10, 6), (77, 10, 7), (80, 10, 3)]
  | 6 => [(11, 6, 0), (18, 6, 1), (22, 6, 2), (25, 6, 3), (29, 5, 2), (58, 5, 4), (72, 10, 0), (79, 10, 4), (82, 10, 5), (85, 10, 6), (88, 10, 7)]
  | 7 => [(9, 7, 0), (15, 7, 1), (18, 7, 2), (23, 7, 3), (39, 7, 4)]
  | 8 => [(12, 8, 0), (21, 8, 1), (28, 8, 2), (32, 8, 3), (37, 8, 4)]
  | 9 => [(9, 9, 0), (15, 9, 1), (18, 9, 2), (22, 9, 5), (26, 9, 6), (29, 9, 3), (32, 9, 4)]
  | 10 => [(11, 10, 0), (17, 10, 1), (20, 10, 2), (27, 10, 3), (30, 10, 4), (33, 10, 5), (36, 10, 6), (39, 10, 7)]
  | 11 => [(12, 11, 0), (19, 11, 1), (23, 11, 2), (30, 11, 3), (37, 11, 4), (44, 11, 5), (51, 11, 6), (58, 11, 7), (65, 11, 8), (120, 8, 1), (198, 8, 2), (237, 5, 2), (82, 8, 0), (109, 8, 3), (117, 8, 4), (176, 0, 1), (180, 0, 2), (336, 10, 5), (284, 10, 0), (287, 10, 1), (290, 10, 2), (293, 10, 6)]
  | _ => []
def am_conL : Nat → List (Nat × Int32) := fun c => match c with
  | 0 => [(18, -1000009)]
  | 3 => [(34, -1000009)]
  | 4 => [(62, -1000009)]
  | 5 => [(38, -1000001), (61, -1000009)]
  | 8 => [(36, -1000009)]
  | 9 => [(21, -1000009)]
  | 10 => [(48, -1000009)]
  | 11 => [(115, -1000009), (77, -1000001), (116, 1000000), (134, -1000002), (135, -1000003)]
  | 14 => [(7, 747796405), (8, 2147483647), (39, -1000009), (95, -1000001)]
  | _ => []
def am_lngL : Nat → List (Nat × Int64) := fun c => match c with
  | 3 => [(42, -1)]
  | 7 => [(73, -1)]
  | 10 => [(9, 10000), (49, 20)]
  | 11 => [(308, -1), (296, 10)]
  | _ => []
def am_newL : Nat → List (Nat × Nat) := fun c => match c with
  | 1 => [(9, 0)]
  | 2 => [(9, 8)]
  | 4 => [(9, 10)]
  | 6 => [(9, 10)]
  | 7 => [(21, 0)]
  | 8 => [(9, 3), (18, 1), (25, 5)]
  | 11 => [(9, 8), (16, 2), (27, 9), (34, 7), (41, 4), (48, 6), (55, 0), (62, 10)]
  | 14 => [(10, 11)]
  | _ => []
abbrev am_I : Type := Nat × ByteArray × MethodName × Nat × Option FieldType × Nat × Nat
abbrev mX0_init : am_I := (0, cX0_init, yX0_init, 1, none, 2, 21)
abbrev mX0_clear : am_I := (0, cX0_clear, yX0_clear, 2, none, 1, 0)
abbrev mX0_shows : am_I := (0, cX0_shows, yX0_shows, 2, (some .int), 2, 20)
abbrev mX0_show : am_I := (0, cX0_show, yX0_show, 3, none, 2, 20)
abbrev mX0_readFrom : am_I := (0, cX0_readFrom, yX0_readFrom, 2, none, 3, 61)
abbrev mX0_copyFrom : am_I := (0, cX0_copyFrom, yX0_copyFrom, 2, none, 1, 40)
abbrev mX1_init : am_I := (1, cX1_init, yX1_init, 2, none, 3, 41)
abbrev mX1_size : am_I := (1, cX1_size, yX1_size, 1, (some .int), 1, 0)
abbrev mX1_has : am_I := (1, cX1_has, yX1_has, 2, (some .boolean), 1, 0)
abbrev mX1_at : am_I := (1, cX1_at, yX1_at, 3, (some (.object "CardTabulator$Card")), 1, 0)
abbrev mX1_put : am_I := (1, cX1_put, yX1_put, 3, none, 1, 0)
abbrev mX1_insertBlank : am_I := (1, cX1_insertBlank, yX1_insertBlank, 3, (some (.object "CardTabulator$Card")), 3, 46)
abbrev mX1_remove : am_I := (1, cX1_remove, yX1_remove, 2, none, 3, 46)
abbrev mX1_carry : am_I := (1, cX1_carry, yX1_carry, 5, none, 2, 22)
abbrev mX1_copyFrom : am_I := (1, cX1_copyFrom, yX1_copyFrom, 3, none, 2, 61)
abbrev mX2_init : am_I := (2, cX2_init, yX2_init, 1, none, 1, 20)
abbrev mX2_size : am_I := (2, cX2_size, yX2_size, 1, (some .int), 1, 0)
abbrev mX2_isEmpty : am_I := (2, cX2_isEmpty, yX2_isEmpty, 1, (some .boolean), 1, 0)
abbrev mX2_record : am_I := (2, cX2_record, yX2_record, 2, none, 6, 105)
abbrev mX2_restoreInto : am_I := (2, cX2_restoreInto, yX2_restoreInto, 2, none, 6, 105)
abbrev mX2_at : am_I := (2, cX2_at, yX2_at, 4, (some (.object "CardTabulator$State")), 5, 82)
abbrev mX3_init : am_I := (3, cX3_init, yX3_init, 1, none, 1, 20)
abbrev mX3_firstOf : am_I := (3, cX3_firstOf, yX3_firstOf, 2, (some .int), 2, 20)
abbrev mX3_widthOf : am_I := (3, cX3_widthOf, yX3_widthOf, 2, (some .int), 2, 20)
abbrev mX3_place : am_I := (3, cX3_place, yX3_place, 4, none, 2, 20)
abbrev mX3_valueOn : am_I := (3, cX3_valueOn, yX3_valueOn, 8, (some .int), 3, 41)
abbrev mX3_dueOn : am_I := (3, cX3_dueOn, yX3_dueOn, 4, (some .int), 4, 68)
abbrev mX3_weighedDigits : am_I := (3, cX3_weighedDigits, yX3_weighedDigits, 8, (some .int), 3, 41)
abbrev mX3_keyOn : am_I := (3, cX3_keyOn, yX3_keyOn, 5, (some .long), 4, 68)
abbrev mX3_copyFrom : am_I := (3, cX3_copyFrom, yX3_copyFrom, 2, none, 1, 40)
abbrev mX4_init : am_I := (4, cX4_init, yX4_init, 1, none, 2, 40)
abbrev mX4_begin : am_I := (4, cX4_begin, yX4_begin, 1, none, 2, 20)
abbrev mX4_accept : am_I := (4, cX4_accept, yX4_accept, 4, none, 4, 69)
abbrev mX4_end : am_I := (4, cX4_end, yX4_end, 2, none, 3, 46)
abbrev mX4_breakBefore : am_I := (4, cX4_breakBefore, yX4_breakBefore, 4, none, 3, 46)
abbrev mX4_breakWorker : am_I := (4, cX4_breakWorker, yX4_breakWorker, 3, none, 2, 24)
abbrev mX4_breakGroup : am_I := (4, cX4_breakGroup, yX4_breakGroup, 2, none, 2, 24)
abbrev mX4_breakDepartment : am_I := (4, cX4_breakDepartment, yX4_breakDepartment, 2, none, 2, 24)
abbrev mX5_init : am_I := (5, cX5_init, yX5_init, 1, none, 1, 20)
abbrev mX5_begin : am_I := (5, cX5_begin, yX5_begin, 3, none, 1, 21)
abbrev mX5_isEmpty : am_I := (5, cX5_isEmpty, yX5_isEmpty, 1, (some .boolean), 1, 0)
abbrev mX5_has : am_I := (5, cX5_has, yX5_has, 2, (some .boolean), 1, 0)
abbrev mX5_hadCard : am_I := (5, cX5_hadCard, yX5_hadCard, 2, (some .boolean), 1, 0)
abbrev mX5_reasonOf : am_I := (5, cX5_reasonOf, yX5_reasonOf, 2, (some .int), 2, 21)
abbrev mX5_judge : am_I := (5, cX5_judge, yX5_judge, 3, none, 2, 21)
abbrev mX5_refusedCards : am_I := (5, cX5_refusedCards, yX5_refusedCards, 3, (some .int), 3, 42)
abbrev mX5_number : am_I := (5, cX5_number, yX5_number, 3, (some .int), 2, 22)
abbrev mX5_lastLine : am_I := (5, cX5_lastLine, yX5_lastLine, 2, (some .int), 3, 44)
abbrev mX5_sumOfWorkers : am_I := (5, cX5_sumOfWorkers, yX5_sumOfWorkers, 3, (some .int), 4, 65)
abbrev mX5_isCard : am_I := (5, cX5_isCard, yX5_isCard, 2, (some .boolean), 3, 44)
abbrev mX5_print : am_I := (5, cX5_print, yX5_print, 5, none, 1, 0)
abbrev mX5_readCard : am_I := (5, cX5_readCard, yX5_readCard, 3, none, 3, 44)
abbrev mX5_copyFrom : am_I := (5, cX5_copyFrom, yX5_copyFrom, 2, none, 1, 40)
abbrev mX6_init : am_I := (6, cX6_init, yX6_init, 2, none, 2, 40)
abbrev mX6_size : am_I := (6, cX6_size, yX6_size, 1, (some .int), 1, 0)
abbrev mX6_at : am_I := (6, cX6_at, yX6_at, 3, (some (.object "CardTabulator$Totals")), 1, 0)
abbrev mX6_reckon : am_I := (6, cX6_reckon, yX6_reckon, 3, none, 4, 66)
abbrev mX6_ofKey : am_I := (6, cX6_ofKey, yX6_ofKey, 4, (some (.object "CardTabulator$Totals")), 3, 42)
abbrev mX6_sum : am_I := (6, cX6_sum, yX6_sum, 5, (some .int), 2, 22)
abbrev mX6_numberOf : am_I := (6, cX6_numberOf, yX6_numberOf, 2, (some .int), 1, 0)
abbrev mX6_rank : am_I := (6, cX6_rank, yX6_rank, 4, none, 4, 63)
abbrev mX6_put : am_I := (6, cX6_put, yX6_put, 3, none, 1, 0)
abbrev mX6_isAhead : am_I := (6, cX6_isAhead, yX6_isAhead, 2, (some .boolean), 3, 42)
abbrev mX7_init : am_I := (7, cX7_init, yX7_init, 1, none, 1, 20)
abbrev mX7_begin : am_I := (7, cX7_begin, yX7_begin, 3, none, 2, 21)
abbrev mX7_passBy : am_I := (7, cX7_passBy, yX7_passBy, 6, none, 5, 86)
abbrev mX7_findStarts : am_I := (7, cX7_findStarts, yX7_findStarts, 4, none, 4, 63)
abbrev mX7_stackOf : am_I := (7, cX7_stackOf, yX7_stackOf, 3, (some .int), 3, 41)
abbrev mX7_arrange : am_I := (7, cX7_arrange, yX7_arrange, 4, (some .int), 2, 22)
abbrev mX7_isInKeyOrder : am_I := (7, cX7_isInKeyOrder, yX7_isInKeyOrder, 8, (some .boolean), 5, 92)
abbrev mX8_init : am_I := (8, cX8_init, yX8_init, 1, none, 4, 62)
abbrev mX8_settingOf : am_I := (8, cX8_settingOf, yX8_settingOf, 2, (some .int), 2, 20)
abbrev mX8_copyFrom : am_I := (8, cX8_copyFrom, yX8_copyFrom, 2, none, 3, 83)
abbrev mX9_init : am_I := (9, cX9_init, yX9_init, 1, none, 1, 20)
abbrev mX9_size : am_I := (9, cX9_size, yX9_size, 1, (some .int), 1, 0)
abbrev mX9_clear : am_I := (9, cX9_clear, yX9_clear, 1, none, 1, 0)
abbrev mX9_append : am_I := (9, cX9_append, yX9_append, 2, none, 1, 0)
abbrev mX9_at : am_I := (9, cX9_at, yX9_at, 2, (some .int), 1, 0)
abbrev mX9_readsAsCard : am_I := (9, cX9_readsAsCard, yX9_readsAsCard, 4, (some .boolean), 5, 85)
abbrev mX9_noteFault : am_I := (9, cX9_noteFault, yX9_noteFault, 3, (some .boolean), 1, 0)
abbrev mX9_readBetweenWords : am_I := (9, cX9_readBetweenWords, yX9_readBetweenWords, 4, (some .int), 3, 41)
abbrev mX9_readInWord : am_I := (9, cX9_readInWord, yX9_readInWord, 4, (some .int), 4, 62)
abbrev mX9_countDigit : am_I := (9, cX9_countDigit, yX9_countDigit, 2, (some .int), 3, 41)
abbrev mX9_hasWord : am_I := (9, cX9_hasWord, yX9_hasWord, 2, (some .boolean), 1, 0)
abbrev mX9_endsBehindLetter : am_I := (9, cX9_endsBehindLetter, yX9_endsBehindLetter, 1, (some .boolean), 3, 41)
abbrev mX9_digitsOf : am_I := (9, cX9_digitsOf, yX9_digitsOf, 2, (some .int), 2, 20)
abbrev mX9_isTextField : am_I := (9, cX9_isTextField, yX9_isTextField, 1, (some .boolean), 1, 0)
abbrev mX9_fieldOf : am_I := (9, cX9_fieldOf, yX9_fieldOf, 1, (some .int), 1, 0)
abbrev mX9_punchOn : am_I := (9, cX9_punchOn, yX9_punchOn, 4, none, 4, 69)
abbrev mX9_punchNumber : am_I := (9, cX9_punchNumber, yX9_punchNumber, 8, none, 3, 42)
abbrev mX10_init : am_I := (10, cX10_init, yX10_init, 1, none, 1, 20)
abbrev mX10_keyOf : am_I := (10, cX10_keyOf, yX10_keyOf, 3, (some .long), 1, 0)
abbrev mX10_key : am_I := (10, cX10_key, yX10_key, 1, (some .long), 2, 22)
abbrev mX10_clear : am_I := (10, cX10_clear, yX10_clear, 1, none, 1, 0)
abbrev mX10_fillFrom : am_I := (10, cX10_fillFrom, yX10_fillFrom, 3, (some .boolean), 4, 68)
abbrev mX10_addCard : am_I := (10, cX10_addCard, yX10_addCard, 2, none, 1, 0)
abbrev mX10_overtimeBeyond : am_I := (10, cX10_overtimeBeyond, yX10_overtimeBeyond, 2, (some .int), 1, 0)
abbrev mX10_addOvertime : am_I := (10, cX10_addOvertime, yX10_addOvertime, 2, none, 1, 0)
abbrev mX11_init : am_I := (11, cX11_init, yX11_init, 1, none, 5, 82)
abbrev mX11_lay : am_I := (11, cX11_lay, yX11_lay, 5, (some .int), 7, 126)
abbrev mX11_set : am_I := (11, cX11_set, yX11_set, 4, (some .int), 7, 126)
abbrev mX11_control : am_I := (11, cX11_control, yX11_control, 4, (some .int), 7, 126)
abbrev mX11_punch : am_I := (11, cX11_punch, yX11_punch, 3, (some .int), 7, 126)
abbrev mX11_take : am_I := (11, cX11_take, yX11_take, 2, (some .int), 7, 126)
abbrev mX11_move : am_I := (11, cX11_move, yX11_move, 3, (some .int), 7, 126)
abbrev mX11_repunch : am_I := (11, cX11_repunch, yX11_repunch, 6, (some .int), 7, 126)
abbrev mX11_mark : am_I := (11, cX11_mark, yX11_mark, 6, (some .int), 7, 126)
abbrev mX11_pass : am_I := (11, cX11_pass, yX11_pass, 2, (some .int), 7, 126)
abbrev mX11_sort : am_I := (11, cX11_sort, yX11_sort, 3, (some .int), 7, 126)
abbrev mX11_run : am_I := (11, cX11_run, yX11_run, 2, (some .int), 8, 165)
abbrev mX11_undo : am_I := (11, cX11_undo, yX11_undo, 1, (some .int), 7, 126)
abbrev mX11_write : am_I := (11, cX11_write, yX11_write, 2, (some .int), 2, 22)
abbrev mX11_wipe : am_I := (11, cX11_wipe, yX11_wipe, 2, (some .int), 2, 20)
abbrev mX11_told : am_I := (11, cX11_told, yX11_told, 2, (some .int), 7, 139)
abbrev mX11_setting : am_I := (11, cX11_setting, yX11_setting, 2, (some .int), 3, 41)
abbrev mX11_card : am_I := (11, cX11_card, yX11_card, 4, (some .int), 6, 112)
abbrev mX11_line : am_I := (11, cX11_line, yX11_line, 3, (some .int), 3, 44)
abbrev mX11_reason : am_I := (11, cX11_reason, yX11_reason, 2, (some .int), 3, 42)
abbrev mX11_differs : am_I := (11, cX11_differs, yX11_differs, 2, (some .int), 6, 108)
abbrev mX11_again : am_I := (11, cX11_again, yX11_again, 3, (some .int), 5, 88)
abbrev mX11_agrees : am_I := (11, cX11_agrees, yX11_agrees, 2, (some .int), 5, 88)
abbrev mX11_ranked : am_I := (11, cX11_ranked, yX11_ranked, 4, (some .int), 5, 88)
abbrev mX11_mean : am_I := (11, cX11_mean, yX11_mean, 2, (some .float), 4, 65)
abbrev mX11_passes : am_I := (11, cX11_passes, yX11_passes, 3, (some .int), 7, 135)
abbrev mX11_accepts : am_I := (11, cX11_accepts, yX11_accepts, 2, (some .int), 8, 165)
abbrev mX11_keep : am_I := (11, cX11_keep, yX11_keep, 3, (some .int), 5, 104)
abbrev mX11_back : am_I := (11, cX11_back, yX11_back, 3, (some .int), 7, 126)
abbrev mX11_feedDeck : am_I := (11, cX11_feedDeck, yX11_feedDeck, 9, (some .int), 7, 137)
abbrev mX11_printJudged : am_I := (11, cX11_printJudged, yX11_printJudged, 3, none, 5, 92)
abbrev mX11_refusal : am_I := (11, cX11_refusal, yX11_refusal, 6, (some .int), 6, 112)
abbrev mX11_faultOfCard : am_I := (11, cX11_faultOfCard, yX11_faultOfCard, 2, (some .int), 5, 91)
abbrev mX11_acceptedTotal : am_I := (11, cX11_acceptedTotal, yX11_acceptedTotal, 2, (some .int), 5, 87)
abbrev mX11_isDeckInOrder : am_I := (11, cX11_isDeckInOrder, yX11_isDeckInOrder, 1, (some .boolean), 6, 119)
abbrev mX11_passByKeyColumns : am_I := (11, cX11_passByKeyColumns, yX11_passByKeyColumns, 5, none, 6, 111)
abbrev mX11_isWithin : am_I := (11, cX11_isWithin, yX11_isWithin, 3, (some .boolean), 1, 0)
abbrev mX11_isField : am_I := (11, cX11_isField, yX11_isField, 1, (some .boolean), 1, 0)
abbrev mX11_isColumn : am_I := (11, cX11_isColumn, yX11_isColumn, 1, (some .boolean), 1, 0)
abbrev mX11_isSetting : am_I := (11, cX11_isSetting, yX11_isSetting, 1, (some .boolean), 1, 0)
abbrev mX11_isControl : am_I := (11, cX11_isControl, yX11_isControl, 1, (some .boolean), 1, 0)
abbrev mX11_fits : am_I := (11, cX11_fits, yX11_fits, 4, (some .boolean), 2, 22)
abbrev mJ9_floorMod_7cf53 : am_I := (13, cJ9_floorMod_7cf53, yJ9_floorMod_7cf53, 3, (some .int), 1, 0)
abbrev mL_cell : am_I := (14, cL_cell, yL_cell, 2, (some .int), 1, 0)
abbrev mL_low : am_I := (14, cL_low, yL_low, 2, (some .int), 1, 0)
abbrev mL_number : am_I := (14, cL_number, yL_number, 4, (some .int), 3, 43)
abbrev mL_write : am_I := (14, cL_write, yL_write, 3, (some .int), 4, 66)
abbrev mL_change : am_I := (14, cL_change, yL_change, 6, (some .int), 9, 186)
abbrev mL_isReport : am_I := (14, cL_isReport, yL_isReport, 9, (some .boolean), 8, 160)
abbrev mL_isAgain : am_I := (14, cL_isAgain, yL_isAgain, 9, (some .boolean), 8, 160)
abbrev mL_isSorted : am_I := (14, cL_isSorted, yL_isSorted, 5, (some .boolean), 8, 160)
abbrev mL_isAccepted : am_I := (14, cL_isAccepted, yL_isAccepted, 11, (some .boolean), 9, 186)
abbrev mL_areAlike : am_I := (14, cL_areAlike, yL_areAlike, 5, (some .boolean), 8, 160)
abbrev mL_law : am_I := (14, cL_law, yL_law, 6, some .boolean, 11, 432)
def am_callL : Nat → List (Nat × Nat × Nat × am_I) := fun c => match c with
  | 0 => [(15, 0, 0, mX0_clear), (26, 4, 1, mX11_isColumn), (30, 0, 1, mX0_copyFrom), (40, 0, 2, mX0_show)]
  | 1 => [(17, 2, 0, mX0_init), (26, 0, 1, mX1_at), (30, 0, 0, mX0_clear), (33, 0, 2, mX1_carry), (37, 0, 1, mX1_has), (41, 0, 2, mX1_put), (45, 0, 1, mX0_copyFrom)]
  | 2 => [(21, 0, 1, mX2_at), (25, 0, 1, mX8_copyFrom), (32, 1, 2, mJ9_floorMod_7cf53), (38, 5, 0, mX8_init)]
  | 3 => [(18, 4, 1, mX11_isField), (22, 0, 1, mX3_firstOf), (26, 0, 1, mX3_widthOf), (29, 0, 1, mX0_shows), (35, 0, 2, mX3_weighedDigits), (39, 0, 2, mX3_valueOn), (44, 1, 3, mX10_keyOf)]
  | 4 => [(11, 5, 0, mX10_init), (27, 0, 0, mX10_clear), (34, 0, 0, mX10_key), (38, 0, 2, mX4_breakBefore), (42, 0, 3, mX5_print), (48, 0, 1, mX10_addCard), (52, 0, 1, mX4_breakWorker), (56, 0, 1, mX4_breakGroup), (59, 0, 1, mX4_breakDepartment), (70, 0, 1, mX10_overtimeBeyond), (74, 0, 1, mX10_addOvertime)]
  | 5 => [(34, 0, 1, mX5_hadCard), (39, 0, 1, mX5_reasonOf), (43, 4, 3, mX11_isWithin), (47, 0, 1, mX5_has), (50, 0, 2, mX5_number), (53, 0, 1, mX5_isCard)]
  | 6 => [(17, 5, 0, mX10_init), (34, 0, 1, mX5_isCard), (38, 0, 2, mX5_readCard), (42, 0, 0, mX10_key), (46, 0, 1, mX6_ofKey), (50, 0, 1, mX10_addCard), (54, 0, 1, mX6_at), (61, 0, 1, mX10_overtimeBeyond), (65, 0, 1, mX10_addOvertime), (69, 0, 0, mX10_clear), (75, 1, 2, mX6_numberOf), (91, 1, 2, mX6_isAhead), (95, 0, 2, mX6_put)]
  | 7 => [(27, 0, 0, mX1_size), (43, 0, 2, mX7_findStarts), (47, 0, 1, mX1_at), (51, 1, 2, mX7_stackOf), (61, 0, 1, mX0_shows), (65, 4, 3, mX11_isWithin), (69, 0, 2, mX1_put), (75, 0, 1, mX3_keyOn)]
  | 8 => [(11, 5, 0, mX3_init), (20, 2, 0, mX1_init), (27, 5, 0, mX5_init), (40, 4, 1, mX11_isSetting), (44, 0, 1, mX3_copyFrom), (48, 0, 1, mX1_copyFrom), (51, 0, 1, mX5_copyFrom)]
  | 9 => [(35, 0, 1, mX9_readBetweenWords), (39, 0, 2, mX9_readInWord), (43, 0, 2, mX9_noteFault), (47, 0, 0, mX9_hasWord), (51, 0, 0, mX9_endsBehindLetter), (54, 0, 1, mX9_at), (57, 1, 1, mX9_fieldOf), (60, 0, 1, mX9_digitsOf), (63, 1, 1, mX9_isTextField), (67, 4, 3, mX11_isWithin), (71, 0, 1, mX3_widthOf), (76, 0, 1, mX9_countDigit), (79, 0, 3, mX9_punchNumber), (83, 0, 1, mX3_firstOf), (86, 0, 2, mX0_show)]
  | 10 => [(23, 1, 3, mX10_keyOf), (42, 0, 2, mX3_valueOn)]
  | 11 => [(11, 5, 0, mX8_init), (18, 5, 0, mX2_init), (29, 5, 0, mX9_init), (36, 5, 0, mX7_init), (43, 5, 0, mX4_init), (50, 2, 0, mX6_init), (57, 2, 0, mX0_init), (64, 5, 0, mX10_init), (69, 1, 1, mX11_isField), (73, 1, 3, mX11_fits), (78, 0, 1, mX2_record), (86, 0, 1, mX3_firstOf), (92, 0, 3, mX3_place), (96, 1, 1, mX11_isSetting), (103, 1, 3, mX11_isWithin), (106, 0, 1, mX8_settingOf), (112, 1, 1, mX11_isControl), (124, 0, 0, mX1_size), (130, 0, 1, mX9_readsAsCard), (136, 0, 1, mX1_insertBlank), (140, 0, 2, mX9_punchOn), (144, 0, 1, mX3_dueOn), (148, 0, 2, mX0_show), (152, 0, 1, mX1_has), (155, 0, 1, mX1_remove), (159, 0, 2, mX1_carry), (167, 1, 1, mX11_isColumn), (170, 0, 1, mX1_at), (173, 0, 1, mX0_shows), (183, 0, 1, mX7_begin), (187, 0, 2, mX7_passBy), (191, 0, 1, mX7_arrange), (195, 0, 1, mX3_widthOf), (202, 0, 2, mX5_begin), (206, 0, 0, mX4_begin), (208, 0, 2, mX11_feedDeck), (212, 0, 1, mX4_end), (216, 0, 0, mX2_isEmpty), (220, 0, 1, mX2_restoreInto), (223, 0, 0, mX2_size), (224, 0, 0, mX9_size), (225, 0, 1, mX9_append), (228, 0, 0, mX9_clear), (240, 0, 0, mX5_isEmpty), (241, 0, 1, mX5_lastLine), (244, 0, 0, mX5_refusedCards), (247, 0, 0, mX11_isDeckInOrder), (250, 0, 2, mX3_valueOn), (254, 0, 1, mX11_faultOfCard), (257, 0, 1, mX5_has), (258, 0, 2, mX5_number), (262, 0, 1, mX5_hadCard), (265, 0, 1, mX5_reasonOf), (268, 0, 1, mX11_acceptedTotal), (271, 0, 1, mX6_reckon), (274, 0, 2, mX6_sum), (277, 0, 0, mX6_size), (278, 0, 0, mX6_rank), (281, 0, 1, mX6_at), (298, 0, 1, mX11_passByKeyColumns), (301, 0, 2, mX7_isInKeyOrder), (305, 0, 1, mX8_copyFrom), (310, 0, 3, mX11_refusal), (314, 0, 0, mX10_key), (318, 0, 2, mX11_printJudged), (321, 0, 2, mX5_judge), (324, 0, 3, mX4_accept), (328, 0, 1, mX0_readFrom), (332, 0, 2, mX10_fillFrom), (339, 0, 0, mX5_sumOfWorkers)]
  | 14 => [(9, 0, 1, mX11_write), (15, 0, 0, mX11_wipe), (19, 1, 2, mL_low), (25, 1, 3, mL_number), (29, 0, 1, mX11_told), (32, 0, 3, mX11_lay), (36, 0, 2, mX11_set), (40, 0, 2, mX11_control), (43, 0, 1, mX11_take), (46, 0, 2, mX11_move), (49, 0, 3, mX11_repunch), (52, 0, 3, mX11_mark), (55, 0, 1, mX11_pass), (58, 0, 1, mX11_sort), (61, 0, 0, mX11_run), (64, 0, 0, mX11_undo), (67, 0, 1, mX11_keep), (70, 0, 1, mX11_back), (73, 1, 2, mL_write), (76, 0, 1, mX11_punch), (79, 0, 0, mX11_agrees), (82, 0, 0, mX11_mean), (86, 0, 2, mX11_again), (89, 0, 2, mX11_line), (92, 0, 1, mX11_reason), (96, 0, 2, mX11_ranked), (99, 0, 1, mX11_differs), (102, 0, 0, mX11_passes), (105, 0, 1, mX11_accepts), (108, 0, 2, mX11_card), (111, 0, 1, mX11_setting), (114, 2, 0, mX11_init), (115, 1, 2, mL_cell), (119, 1, 3, mL_change), (122, 1, 1, mL_isReport), (126, 1, 1, mL_isAgain), (129, 1, 1, mL_isSorted), (132, 1, 2, mL_isAccepted), (136, 1, 2, mL_areAlike)]
  | _ => []
def am_spL : Nat → List (Nat × Nat) := fun c => match c with
  | 0 => [(3, 0), (34, 1)]
  | 1 => [(3, 0)]
  | 2 => [(3, 0)]
  | 3 => [(3, 0), (50, 1)]
  | 4 => [(3, 0)]
  | 5 => [(3, 0), (22, 2), (83, 1)]
  | 6 => [(3, 0)]
  | 7 => [(3, 0), (33, 2), (55, 1)]
  | 8 => [(3, 0), (54, 1)]
  | 9 => [(3, 0)]
  | 10 => [(3, 0)]
  | 11 => [(3, 0), (162, 3)]
  | _ => []
def am_anL : Nat → List (Nat × Nat) := fun c => match c with
  | 1 => [(9, 1)]
  | 2 => [(9, 2)]
  | 6 => [(9, 3)]
  | 7 => [(21, 1)]
  | 11 => [(9, 2)]
  | _ => []
/-! THE SMALL MACHINE: the same bytes, over a heap of numbered cells. Cells: an array (kind, length and contents; kinds 0 int, 1 Card, 2 State, 3 Totals, 9 an int array that nobody writes) or an object (class, fields). A heap: cells by address, the next address, the slots made so far. -/
abbrev am_C : Type := (Nat × vp_A) ⊕ (Nat × List Value)
abbrev am_H : Type := (Nat → Option am_C) × Nat × Nat
abbrev am_L : Type := List (Option Value)
abbrev am_R : Type := Option (Nat × am_L × List Value × am_H)
def am_kill (o : Option Value) : Option Value := match o with
  | some w => if w.category = 2 then none else some w
  | none => none
def am_tail (v : Value) (l : am_L) : am_L := if v.category = 2 then (match l with | [] => [] | _ :: l' => none :: l') else l
def am_set (v : Value) : Nat → am_L → am_L
  | _, [] => []
  | 0, _ :: l => some v :: am_tail v l
  | 1, o :: l => am_kill o :: am_set v 0 l
  | i + 2, o :: l => o :: am_set v (i + 1) l
def am_isI (v : Value) : Bool := match v with | .int _ => true | _ => false
def am_isL (v : Value) : Bool := match v with | .long _ => true | _ => false
def am_isD (v : Value) : Bool := match v with | .double _ => true | _ => false
def am_isA (v : Value) : Bool := match v with | .ref _ => true | .null => true | _ => false
def am_load (ok : Value → Bool) (i pc : Nat) (ls : am_L) (st : List Value) (H : am_H) : am_R := match ls[i]? with
  | some (some v) => if ok v = true then some (pc, ls, v :: st, H) else none
  | _ => none
def am_store (ok : Value → Bool) (i pc : Nat) (ls : am_L) (st : List Value) (H : am_H) : am_R := match st with
  | v :: st' => if ok v = true ∧ i + v.category ≤ ls.length then some (pc, am_set v i ls, st', H) else none
  | [] => none
def am_iinc (i : Nat) (k : Int) (pc : Nat) (ls : am_L) (st : List Value) (H : am_H) : am_R := match ls[i]? with
  | some (some (.int x)) => some (pc, am_set (.int (x + Int32.ofInt k)) i ls, st, H)
  | _ => none
def am_i2 (f : Int32 → Int32 → Option Int32) (pc : Nat) (ls : am_L) (st : List Value) (H : am_H) : am_R := match st with
  | .int y :: .int x :: st' => (match f x y with | some z => some (pc, ls, .int z :: st', H) | none => none)
  | _ => none
def am_l2 (f : Int64 → Int64 → Option Value) (pc : Nat) (ls : am_L) (st : List Value) (H : am_H) : am_R := match st with
  | .long y :: .long x :: st' => (match f x y with | some z => some (pc, ls, z :: st', H) | none => none)
  | _ => none
def am_u1 (f : Value → Option Value) (pc : Nat) (ls : am_L) (st : List Value) (H : am_H) : am_R := match st with
  | v :: st' => (match f v with | some z => some (pc, ls, z :: st', H) | none => none)
  | [] => none
def am_tgt (pc : Nat) (off : Int) (ls : am_L) (st : List Value) (H : am_H) : am_R := if 0 ≤ (pc : Int) + off then some (((pc : Int) + off).toNat, ls, st, H) else none
def am_c1 (k : ClassFile.Cond) (x : Int32) : Bool := match k with
  | .eq => decide (x = 0)
  | .ne => decide (¬ x = 0)
  | .lt => decide (x < 0)
  | .ge => decide (0 ≤ x)
  | .gt => decide (0 < x)
  | .le => decide (x ≤ 0)
def am_c2 (k : ClassFile.Cond) (x y : Int32) : Bool := match k with
  | .eq => decide (x = y)
  | .ne => decide (¬ x = y)
  | .lt => decide (x < y)
  | .ge => decide (y ≤ x)
  | .gt => decide (y < x)
  | .le => decide (x ≤ y)
def am_if1 (k : ClassFile.Cond) (off : Int) (pc : Nat) (ls : am_L) (st : List Value) (H : am_H) : am_R := match st with
  | .int x :: st' => if 0 ≤ (pc : Int) + off then some (if am_c1 k x = true then ((pc : Int) + off).toNat else pc + 3, ls, st', H) else none
  | _ => none
def am_if2 (k : ClassFile.Cond) (off : Int) (pc : Nat) (ls : am_L) (st : List Value) (H : am_H) : am_R := match st with
  | .int y :: .int x :: st' => if 0 ≤ (pc : Int) + off then some (if am_c2 k x y = true then ((pc : Int) + off).toNat else pc + 3, ls, st', H) else none
  | _ => none
def am_nn (off : Int) (pc : Nat) (ls : am_L) (st : List Value) (H : am_H) : am_R := match st with
  | .ref _ :: st' => am_tgt pc off ls st' H
  | .null :: st' => some (pc + 3, ls, st', H)
  | _ => none
def am_tsw (dflt lo hi : Int) (offs : Array Int) (pc : Nat) (ls : am_L) (st : List Value) (H : am_H) : am_R := match st with
  | .int x :: st' => if x.toInt < lo ∨ hi < x.toInt then am_tgt pc dflt ls st' H else (match offs[(x.toInt - lo).toNat]? with | some off => am_tgt pc off ls st' H | none => none)
  | _ => none
def am_lsw (dflt : Int) (ps : Array (Int × Int)) (pc : Nat) (ls : am_L) (st : List Value) (H : am_H) : am_R := match st with
  | .int x :: st' => if (ps.toList.zip (ps.toList.drop 1)).all (fun (a, next) => a.1 < next.1) = true then am_tgt pc (Op.lookupswitch.offset ps.toList dflt x.toInt) ls st' H else none
  | _ => none
def am_dup (pc : Nat) (ls : am_L) (st : List Value) (H : am_H) : am_R := match st with
  | v :: st' => if v.category = 1 then some (pc, ls, v :: v :: st', H) else none
  | [] => none
def am_dup2 (pc : Nat) (ls : am_L) (st : List Value) (H : am_H) : am_R := match st with
  | v :: w :: st' => if v.category = 1 ∧ w.category = 1 then some (pc, ls, v :: w :: v :: w :: st', H) else none
  | _ => none
def am_okv (ty : FieldType) (v : Value) : Bool := match ty, v with
  | .int, .int _ => true
  | .object _, .ref _ => true
  | .object _, .null => true
  | .array _, .ref _ => true
  | .array _, .null => true
  | _, _ => false
def am_ini (mi : am_I) : Bool := mi.2.2.1.name == "<init>"
def am_getf (c cp pc : Nat) (ls : am_L) (st : List Value) (H : am_H) : am_R := match st, (am_fldL c).lookup cp with
  | .ref a :: st', some (ci, k) => (match H.1 a with
    | some (.inr (cj, fs)) => if cj = ci then (match fs[k]? with | some v => some (pc, ls, v :: st', H) | none => none) else none
    | _ => none)
  | _, _ => none
def am_fin (ci k : Nat) : Bool := match vwCl[ci]? with
  | some r => (r.2.1 k).2.2.2
  | none => true
def am_putf (ini : Bool) (c cp pc : Nat) (ls : am_L) (st : List Value) (H : am_H) : am_R := match st, (am_fldL c).lookup cp with
  | v :: .ref a :: st', some (ci, k) => (match H.1 a with
    | some (.inr (cj, fs)) => if cj = ci ∧ am_okv (am_tys ci k) v = true ∧ (am_fin ci k = false ∨ (ini = true ∧ ci = c)) then some (pc, ls, st', va_up H.1 a (some (.inr (ci, fs.set k v))), H.2.1, H.2.2) else none
    | _ => none)
  | _, _ => none
def am_gets (sA c cp pc : Nat) (ls : am_L) (st : List Value) (H : am_H) : am_R := if c = 11 ∧ cp = 99 then some (pc, ls, .ref sA :: st, H) else none
def am_bl (ci : Nat) : List Value := match vwCl[ci]? with
  | some r => (List.range r.2.2).map (fun k => defaultValue (am_tys ci k))
  | none => []
def am_nf (ci : Nat) : Nat := match vwCl[ci]? with
  | some r => r.2.2
  | none => 0
def am_new (c cp pc : Nat) (ls : am_L) (st : List Value) (H : am_H) : am_R := match (am_newL c).lookup cp with
  | some ci => some (pc, ls, .ref H.2.1 :: st, va_up H.1 H.2.1 (some (.inr (ci, am_bl ci))), H.2.1 + 1, H.2.2 + am_nf ci)
  | none => none
def am_newa (pc : Nat) (ls : am_L) (st : List Value) (H : am_H) : am_R := match st with
  | .int n :: st' => if 0 ≤ n ∧ n.toNatClampNeg ≤ 100000 then some (pc, ls, .ref H.2.1 :: st', va_up H.1 H.2.1 (some (.inl (0, n.toNatClampNeg, .inl (fun _ => 0)))), H.2.1 + 1, H.2.2 + n.toNatClampNeg) else none
  | _ => none
def am_anew (c cp pc : Nat) (ls : am_L) (st : List Value) (H : am_H) : am_R := match st, (am_anL c).lookup cp with
  | .int n :: st', some t => if 0 ≤ n ∧ n.toNatClampNeg ≤ 100000 then some (pc, ls, .ref H.2.1 :: st', va_up H.1 H.2.1 (some (.inl (t, n.toNatClampNeg, .inr (.inr (.inr (.inr (fun _ => none))))))), H.2.1 + 1, H.2.2 + n.toNatClampNeg) else none
  | _, _ => none
def am_iald (pc : Nat) (ls : am_L) (st : List Value) (H : am_H) : am_R := match st with
  | .int i :: .ref a :: st' => (match H.1 a with
    | some (.inl (t, n, .inl f)) => if (t = 0 ∨ t = 9) ∧ 0 ≤ i ∧ i.toNatClampNeg < n then some (pc, ls, .int (f i.toNatClampNeg) :: st', H) else none
    | _ => none)
  | _ => none
def am_iast (pc : Nat) (ls : am_L) (st : List Value) (H : am_H) : am_R := match st with
  | .int x :: .int i :: .ref a :: st' => (match H.1 a with
    | some (.inl (t, n, .inl f)) => if t = 0 ∧ 0 ≤ i ∧ i.toNatClampNeg < n then some (pc, ls, st', va_up H.1 a (some (.inl (0, n, .inl (upd f i.toNatClampNeg x)))), H.2.1, H.2.2) else none
    | _ => none)
  | _ => none
def am_aald (pc : Nat) (ls : am_L) (st : List Value) (H : am_H) : am_R := match st with
  | .int i :: .ref a :: st' => (match H.1 a with
    | some (.inl (t, n, .inr (.inr (.inr (.inr f))))) => if (0 < t ∧ t < 4) ∧ 0 ≤ i ∧ i.toNatClampNeg < n then some (pc, ls, va_rf (f i.toNatClampNeg) :: st', H) else none
    | _ => none)
  | _ => none
/-- the class of which an array of references of a kind holds -/
def am_comp (t : Nat) : Nat := match t with
  | 1 => 0
  | 2 => 8
  | _ => 10
def am_aast (pc : Nat) (ls : am_L) (st : List Value) (H : am_H) : am_R := match st with
  | .ref b :: .int i :: .ref a :: st' => (match H.1 a, H.1 b with
    | some (.inl (t, n, .inr (.inr (.inr (.inr f))))), some (.inr (ci, _)) => if ((0 < t ∧ t < 4) ∧ ci = am_comp t) ∧ 0 ≤ i ∧ i.toNatClampNeg < n then some (pc, ls, st', va_up H.1 a (some (.inl (t, n, .inr (.inr (.inr (.inr (va_up f i.toNatClampNeg (some b)))))))), H.2.1, H.2.2) else none
    | _, _ => none)
  | _ => none
def am_alen (pc : Nat) (ls : am_L) (st : List Value) (H : am_H) : am_R := match st with
  | .ref a :: st' => (match H.1 a with
    | some (.inl (t, n, .inl _)) => if t = 0 ∨ t = 9 then some (pc, ls, .int (Int32.ofNat n) :: st', H) else none
    | _ => none)
  | _ => none
def am_cat (st : List Value) : Nat := (st.map fun v => v.category).sum
/-- Object's constructor, System.arraycopy of ints, Math.min, Math.abs -/
def am_obj (mi : am_I) (pc : Nat) (ls : am_L) (st : List Value) (H : am_H) : am_R := match st with
  | .ref _ :: st' => if 1 ≤ mi.2.2.2.2.2.1 ∧ am_cat st' + 12 ≤ mi.2.2.2.2.2.2 then some (pc + 3, ls, st', H) else none
  | _ => none
def am_copy (mi : am_I) (pc : Nat) (ls : am_L) (st : List Value) (H : am_H) : am_R := match st with
  | .int n :: .int dp :: .ref a :: .int sp :: .ref a0 :: st' => (match H.1 a0, H.1 a with
    | some (.inl (t0, n0, .inl f)), some (.inl (t1, n1, .inl g)) => if (t0 = 0 ∧ t1 = 0) ∧ (0 ≤ sp ∧ 0 ≤ dp ∧ 0 ≤ n) ∧ (sp.toNatClampNeg + n.toNatClampNeg ≤ n0 ∧ dp.toNatClampNeg + n.toNatClampNeg ≤ n1) ∧ 1 ≤ mi.2.2.2.2.2.1 ∧ am_cat st' + 18 ≤ mi.2.2.2.2.2.2 then some (pc + 3, ls, st', va_up H.1 a (some (.inl (0, n1, .inl (va_cpy f g sp.toNatClampNeg dp.toNatClampNeg n.toNatClampNeg)))), H.2.1, H.2.2) else none
    | _, _ => none)
  | _ => none
def am_min (mi : am_I) (pc : Nat) (ls : am_L) (st : List Value) (H : am_H) : am_R := match st with
  | .int y :: .int x :: st' => if 1 ≤ mi.2.2.2.2.2.1 ∧ am_cat st' + 13 ≤ mi.2.2.2.2.2.2 then some (pc + 3, ls, .int (if y < x then y else x) :: st', H) else none
  | _ => none
def am_abs (mi : am_I) (pc : Nat) (ls : am_L) (st : List Value) (H : am_H) : am_R := match st with
  | .int x :: st' => if 1 ≤ mi.2.2.2.2.2.1 ∧ am_cat st' + 13 ≤ mi.2.2.2.2.2.2 then some (pc + 3, ls, .int (if 0 ≤ x then x else 0 - x) :: st', H) else none
  | _ => none
def am_special (mi : am_I) (cp pc : Nat) (ls : am_L) (st : List Value) (H : am_H) : am_R := match (am_spL mi.1).lookup cp with
  | some 1 => am_copy mi pc ls st H
  | some 2 => am_min mi pc ls st H
  | some 3 => am_abs mi pc ls st H
  | _ => none
def am_objI (mi : am_I) (cp pc : Nat) (ls : am_L) (st : List Value) (H : am_H) : am_R := match (am_spL mi.1).lookup cp with
  | some 0 => am_obj mi pc ls st H
  | _ => none
def am_push (pc : Nat) (ls : am_L) (st : List Value) (H : am_H) (v : Value) : am_R := some (pc, ls, v :: st, H)
def am_pushO (pc : Nat) (ls : am_L) (st : List Value) (H : am_H) (v : Option Value) : am_R := match v with
  | some v => some (pc, ls, v :: st, H)
  | none => none
def am_n32 (r : UInt32) : Option Value := if r &&& 0x7fffffff ≤ 0x7f800000 then some (.float r) else none
def am_n64 (r : UInt64) : Option Value := if r &&& 0x7fffffffffffffff ≤ 0x7ff0000000000000 then some (.double r) else none
def am_f2 (f : UInt32 → UInt32 → Option Value) (pc : Nat) (ls : am_L) (st : List Value) (H : am_H) : am_R := match st with
  | .float y :: .float x :: st' => am_pushO pc ls st' H (f x y)
  | _ => none
def am_d2 (f : UInt64 → UInt64 → Option Value) (pc : Nat) (ls : am_L) (st : List Value) (H : am_H) : am_R := match st with
  | .double y :: .double x :: st' => am_pushO pc ls st' H (f x y)
  | _ => none
/-- one instruction that neither calls nor returns -/
def am_step (sA : Nat) (mi : am_I) (i : Instr) (pc : Nat) (ls : am_L) (st : List Value) (H : am_H) : am_R := match i with
  | .iconst n => am_push (pc + 1) ls st H (.int (Int32.ofInt n))
  | .bipush n => am_push (pc + 2) ls st H (.int (Int8.ofInt n).toInt32)
  | .sipush n => am_push (pc + 3) ls st H (.int (Int16.ofInt n).toInt32)
  | .ldc cp => am_pushO (pc + 2) ls st H (((am_conL mi.1).lookup cp).map .int)
  | .ldc2_w cp => am_pushO (pc + 3) ls st H (((am_lngL mi.1).lookup cp).map .long)
  | .fconst k => if k = 0 then am_push (pc + 1) ls st H (.float FP.fconst0) else none
  | .aconst_null => am_push (pc + 1) ls st H .null
  | .iload_n k => am_load am_isI k (pc + 1) ls st H
  | .iload k => am_load am_isI k (pc + 2) ls st H
  | .lload_n k => am_load am_isL k (pc + 1) ls st H
  | .lload k => am_load am_isL k (pc + 2) ls st H
  | .dload k => am_load am_isD k (pc + 2) ls st H
  | .aload_n k => am_load am_isA k (pc + 1) ls st H
  | .aload k => am_load am_isA k (pc + 2) ls st H
  | .istore_n k => am_store am_isI k (pc + 1) ls st H
  | .istore k => am_store am_isI k (pc + 2) ls st H
  | .lstore_n k => am_store am_isL k (pc + 1) ls st H
  | .lstore k => am_store am_isL k (pc + 2) ls st H
  | .dstore k => am_store am_isD k (pc + 2) ls st H
  | .astore_n k => am_store am_isA k (pc + 1) ls st H
  | .astore k => am_store am_isA k (pc + 2) ls st H
  | .iinc k n => am_iinc k n (pc + 3) ls st H
  | .iadd => am_i2 (fun x y => some (x + y)) (pc + 1) ls st H
  | .isub => am_i2 (fun x y => some (x - y)) (pc + 1) ls st H
  | .imul => am_i2 (fun x y => some (x * y)) (pc + 1) ls st H
  | .iand => am_i2 (fun x y => some (x &&& y)) (pc + 1) ls st H
  | .ior => am_i2 (fun x y => some (x ||| y)) (pc + 1) ls st H
  | .ixor => am_i2 (fun x y => some (x ^^^ y)) (pc + 1) ls st H
  | .idiv => am_i2 (fun x y => if y = 0 then none else some (x / y)) (pc + 1) ls st H
  | .irem => am_i2 (fun x y => if y = 0 then none else some (x - x / y * y)) (pc + 1) ls st H
  | .ishl => am_i2 (fun x y => some (x <<< (y &&& 31))) (pc + 1) ls st H
  | .ishr => am_i2 (fun x y => some (x >>> (y &&& 31))) (pc + 1) ls st H
  | .ineg => am_u1 (fun v => match v with | .int x => some (.int (-x)) | _ => none) (pc + 1) ls st H
  | .ladd => am_l2 (fun x y => some (.long (x + y))) (pc + 1) ls st H
  | .lmul => am_l2 (fun x y => some (.long (x * y))) (pc + 1) ls st H
  | .ldiv => am_l2 (fun x y => if y = 0 then none else some (.long (x / y))) (pc + 1) ls st H
  | .lcmp => am_l2 (fun x y => some (.int (lg_cmp x y))) (pc + 1) ls st H
  | .i2l => am_u1 (fun v => match v with | .int x => some (.long x.toInt64) | _ => none) (pc + 1) ls st H
  | .l2i => am_u1 (fun v => match v with | .long x => some (.int x.toInt32) | _ => none) (pc + 1) ls st H
  | .l2f => am_u1 (fun v => match v with | .long x => some (.float (FP.l2f x)) | _ => none) (pc + 1) ls st H
  | .i2f => am_u1 (fun v => match v with | .int x => some (.float (FP.i2f x)) | _ => none) (pc + 1) ls st H
  | .f2d => am_u1 (fun v => match v with | .float x => am_n64 (FP.f2d x) | _ => none) (pc + 1) ls st H
  | .fdiv => am_f2 (fun x y => am_n32 (FP.fdiv x y)) (pc + 1) ls st H
  | .dcmp op => am_d2 (fun x y => some (.int (Op.cmpValue (FP.dcmp x y) op))) (pc + 1) ls st H
  | .fcmp op => am_f2 (fun x y => some (.int (Op.cmpValue (FP.fcmp x y) op))) (pc + 1) ls st H
  | .dup => am_dup (pc + 1) ls st H
  | .dup2 => am_dup2 (pc + 1) ls st H
  | .ifCond k off => am_if1 k off pc ls st H
  | .if_icmp k off => am_if2 k off pc ls st H
  | .ifnonnull off => am_nn off pc ls st H
  | .goto off => am_tgt pc off ls st H
  | .tableswitch d lo hi offs => am_tsw d lo hi offs pc ls st H
  | .lookupswitch d ps => am_lsw d ps pc ls st H
  | .getfield cp => am_getf mi.1 cp (pc + 3) ls st H
  | .putfield cp => am_putf (am_ini mi) mi.1 cp (pc + 3) ls st H
  | .getstatic cp => am_gets sA mi.1 cp (pc + 3) ls st H
  | .new cp => am_new mi.1 cp (pc + 3) ls st H
  | .newarray t => if t = .int then am_newa (pc + 2) ls st H else none
  | .anewarray cp => am_anew mi.1 cp (pc + 3) ls st H
  | .iaload => am_iald (pc + 1) ls st H
  | .iastore => am_iast (pc + 1) ls st H
  | .aaload => am_aald (pc + 1) ls st H
  | .aastore => am_aast (pc + 1) ls st H
  | .arraylength => am_alen (pc + 1) ls st H
  | .invokestatic cp => am_special mi cp pc ls st H
  | .invokespecial cp => am_objI mi cp pc ls st H
  | _ => none
/-- how many bytes an instruction has -/
def am_lenOk (i : Instr) (n : Nat) : Bool := match i with
  | .bipush _ => n == 2
  | .ldc _ => n == 2
  | .iload _ => n == 2
  | .lload _ => n == 2
  | .dload _ => n == 2
  | .aload _ => n == 2
  | .istore _ => n == 2
  | .lstore _ => n == 2
  | .dstore _ => n == 2
  | .astore _ => n == 2
  | .newarray _ => n == 2
  | .sipush _ => n == 3
  | .ldc2_w _ => n == 3
  | .iinc _ _ => n == 3
  | .ifCond _ _ => n == 3
  | .if_icmp _ _ => n == 3
  | .ifnonnull _ => n == 3
  | .goto _ => n == 3
  | .getfield _ => n == 3
  | .putfield _ => n == 3
  | .getstatic _ => n == 3
  | .new _ => n == 3
  | .anewarray _ => n == 3
  | .invokevirtual _ => n == 3
  | .invokestatic _ => n == 3
  | .invokespecial _ => n == 3
  | .tableswitch _ _ _ _ => true
  | .lookupswitch _ _ => true
  | _ => n == 1
/-- a method's end -/
def am_ret (mi : am_I) (i : Instr) (st : List Value) : Option (Option Value) := match i, st with
  | .ireturn, [.int v] => (match mi.2.2.2.2.1 with
    | some .int => some (some (.int v))
    | some .boolean => if v = 0 ∨ v = 1 then some (some (.int v)) else none
    | _ => none)
  | .lreturn, [.long v] => (match mi.2.2.2.2.1 with | some .long => some (some (.long v)) | _ => none)
  | .freturn, [.float v] => (match mi.2.2.2.2.1 with | some .float => some (some (.float v)) | _ => none)
  | .areturn, [.ref v] => (match mi.2.2.2.2.1 with | some (.object _) => some (some (.ref v)) | _ => none)
  | .return_, [] => (match mi.2.2.2.2.1 with | none => some none | _ => none)
  | _, _ => none
/-- a call: the method, its arguments, the stack behind it -/
def am_callS (mi : am_I) (k n : Nat) (mj : am_I) (st : List Value) (H : am_H) : Option (am_I × List Value × List Value) :=
  let As := (st.take n).reverse
  if As.length = n ∧ mj.2.2.2.2.2.1 + 1 ≤ mi.2.2.2.2.2.1 ∧ 8 + (mj.2.2.2.1 + 11) + mj.2.2.2.2.2.2 ≤ mi.2.2.2.2.2.2 then
    (if k = 1 ∨ k = 4 then (if am_cat (st.drop n) ≤ 8 then some (mj, As, st.drop n) else none)
     else match st.drop n with
      | .ref b :: rest => if am_cat rest ≤ 8 then (if k = 0 then (match H.1 b with | some (.inr (ci, _)) => if ci = mj.1 then some (mj, .ref b :: As, rest) else none | _ => none) else some (mj, .ref b :: As, rest)) else none
      | _ => none)
  else none
def am_call (mi : am_I) (i : Instr) (st : List Value) (H : am_H) : Option (am_I × List Value × List Value) := match i with
  | .invokevirtual cp => (match (am_callL mi.1).lookup cp with | some (k, n, mj) => if k = 0 then am_callS mi k n mj st H else none | none => none)
  | .invokestatic cp => (match (am_callL mi.1).lookup cp with | some (k, n, mj) => if k = 1 ∨ k = 4 then am_callS mi k n mj st H else none | none => none)
  | .invokespecial cp => (match (am_callL mi.1).lookup cp with | some (k, n, mj) => if k = 2 ∨ k = 5 then am_callS mi k n mj st H else none | none => none)
  | _ => none
def am_flat (vs : List Value) : am_L := vs.flatMap fun v => if v.category = 2 then [some v, none] else [some v]
def am_entry (vs : List Value) (n : Nat) : am_L := am_flat vs ++ List.replicate (n - (am_flat vs).length) none
/-- a method's run, with fuel -/
def am_exec (sA : Nat) : Nat → am_I → Nat → am_L → List Value → am_H → Option (Option Value × am_H)
  | 0, _, _, _, _, _ => none
  | n + 1, mi, pc, ls, st, H => match decode mi.2.1 pc with
    | .error _ => none
    | .ok (i, n0) => if am_lenOk i n0 = true then (match am_ret mi i st with
      | some r => some (r, H)
      | none => match am_call mi i st H with
        | some (mj, As, rest) => if (am_flat As).length ≤ mj.2.2.2.1 then (match am_exec sA n mj 0 (am_entry As mj.2.2.2.1) [] H with
          | some (r, H') => am_exec sA n mi (pc + 3) ls (r.toList ++ rest) H'
          | none => none) else none
        | none => match am_step sA mi i pc ls st H with
          | some (pc', ls', st', H') => if H.2.1 ≤ H'.2.1 ∧ H.2.2 ≤ H'.2.2 then am_exec sA n mi pc' ls' st' H' else none
          | none => none) else none
