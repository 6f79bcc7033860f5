/-! methods and links as words of the tables, laid by wip/whole/gen/kstat.py -/
set_option maxRecDepth 100000 in
theorem zt0 {w : Cond} (h : w ∈ k2_sels lw_privs) : w ∈ lw_tbl := List.mem_append_left _ h
set_option maxRecDepth 100000 in
theorem ztr {w : Cond} (h : w ∈ tables_1) : w ∈ lw_tbl := List.mem_append_right _ h
set_option maxRecDepth 100000 in
theorem zt1 {w : Cond} (h : w ∈ tables_1_1) : w ∈ lw_tbl := ztr (List.mem_append_left _ h)
set_option maxRecDepth 100000 in
theorem zt2 {w : Cond} (h : w ∈ tables_1_2) : w ∈ lw_tbl := ztr (List.mem_append_right _ (List.mem_append_left _ h))
set_option maxRecDepth 100000 in
theorem zt3 {w : Cond} (h : w ∈ tables_1_3) : w ∈ lw_tbl := ztr (List.mem_append_right _ (List.mem_append_right _ (List.mem_append_left _ h)))
set_option maxRecDepth 100000 in
theorem zt4 {w : Cond} (h : w ∈ tables_1_4) : w ∈ lw_tbl := ztr (List.mem_append_right _ (List.mem_append_right _ (List.mem_append_right _ (List.mem_append_left _ h))))
set_option maxRecDepth 100000 in
theorem zt5 {w : Cond} (h : w ∈ tables_1_5) : w ∈ lw_tbl := ztr (List.mem_append_right _ (List.mem_append_right _ (List.mem_append_right _ (List.mem_append_right _ (List.mem_append_left _ h)))))
set_option maxRecDepth 100000 in
theorem zt6 {w : Cond} (h : w ∈ tables_1_6) : w ∈ lw_tbl := ztr (List.mem_append_right _ (List.mem_append_right _ (List.mem_append_right _ (List.mem_append_right _ (List.mem_append_right _ (List.mem_append_left _ h))))))
set_option maxRecDepth 100000 in
theorem zt7 {w : Cond} (h : w ∈ tables_1_7) : w ∈ lw_tbl := ztr (List.mem_append_right _ (List.mem_append_right _ (List.mem_append_right _ (List.mem_append_right _ (List.mem_append_right _ (List.mem_append_right _ (List.mem_append_left _ h)))))))
set_option maxRecDepth 100000 in
theorem zt8 {w : Cond} (h : w ∈ tables_1_8) : w ∈ lw_tbl := ztr (List.mem_append_right _ (List.mem_append_right _ (List.mem_append_right _ (List.mem_append_right _ (List.mem_append_right _ (List.mem_append_right _ (List.mem_append_right _ (List.mem_append_left _ h))))))))
set_option maxRecDepth 100000 in
theorem zt9 {w : Cond} (h : w ∈ tables_1_9) : w ∈ lw_tbl := ztr (List.mem_append_right _ (List.mem_append_right _ (List.mem_append_right _ (List.mem_append_right _ (List.mem_append_right _ (List.mem_append_right _ (List.mem_append_right _ (List.mem_append_right _ (h)))))))))
def zcnL : List String := [RX0, RX1, RX2, RX3, RX4, RX5, RX6, RX7, RX8, RX9, RX10, RX11, RX12, RJ0, RJ1, RJ3, RJ6, RJ7, RJ9, RL]
def zcn (c : Nat) : String := zcnL.getD c ""
/-- name, code, locals, what it returns, number of its class, 0 of an object, 1 static, 2 a constructor, parameters -/
abbrev zYI : Type := MethodName × ByteArray × Nat × Option FieldType × Nat × Nat × Nat
def zYL : List zYI := [(yX0_init, cX0_init, 2, none, 0, 2, 0), (yX0_clear, cX0_clear, 2, none, 0, 0, 0), (yX0_lastNamed, cX0_lastNamed, 3, (some .int), 0, 0, 1), (yX0_hasName, cX0_hasName, 3, (some .boolean), 0, 0, 1), (yX0_moneyOfOneKept, cX0_moneyOfOneKept, 5, (some .int), 0, 0, 2), (yX0_moneyOfNone, cX0_moneyOfNone, 3, (some .int), 0, 0, 2), (yX1_init, cX1_init, 2, none, 1, 2, 1), (yX1_read, cX1_read, 3, (some .int), 1, 0, 1), (yX1_readStatement, cX1_readStatement, 2, none, 1, 0, 1), (yX1_readLast, cX1_readLast, 4, none, 1, 0, 1), (yX1_readSort, cX1_readSort, 4, none, 1, 0, 1), (yX1_readStock, cX1_readStock, 7, none, 1, 0, 1), (yX1_readAsk, cX1_readAsk, 4, none, 1, 0, 1), (yX1_refuseKnown, cX1_refuseKnown, 4, none, 1, 0, 3), (yX1_takeHundreds, cX1_takeHundreds, 3, none, 1, 0, 1), (yX1_takeChances, cX1_takeChances, 5, none, 1, 0, 1), (yX2_init, cX2_init, 1, none, 2, 2, 0), (yX2_byteAt, cX2_byteAt, 2, (some .int), 2, 0, 1), (yX2_write, cX2_write, 5, (some .int), 2, 0, 3), (yX2_put, cX2_put, 2, none, 2, 0, 1), (yX2_putRow, cX2_putRow, 3, none, 2, 0, 1), (yX2_check, cX2_check, 4, (some .int), 2, 1, 2), (yX2_personAt, cX2_personAt, 1, (some .int), 2, 1, 1), (yX2_isOne, cX2_isOne, 6, (some .boolean), 2, 1, 3), (yX2_isPersonAt, cX2_isPersonAt, 3, (some .boolean), 2, 1, 3), (yX2_numberAt, cX2_numberAt, 2, (some .int), 2, 1, 2), (yX2_isCertain, cX2_isCertain, 5, (some .boolean), 2, 1, 3), (yX2_takeRow, cX2_takeRow, 4, none, 2, 1, 3), (yX2_takePeople, cX2_takePeople, 5, (some .int), 2, 1, 2), (yX2_takeRuns, cX2_takeRuns, 4, none, 2, 1, 3), (yX3_init, cX3_init, 1, none, 3, 2, 0), (yX3_lean, cX3_lean, 1, (some .int), 3, 0, 0), (yX4_init, cX4_init, 1, none, 4, 2, 0), (yX4_begin, cX4_begin, 4, none, 4, 0, 3), (yX4_hasBox, cX4_hasBox, 1, (some .boolean), 4, 0, 0), (yX4_canBeSent, cX4_canBeSent, 2, (some .boolean), 4, 0, 1), (yX4_withinSizes, cX4_withinSizes, 4, (some .int), 4, 0, 1), (yX4_endBox, cX4_endBox, 2, none, 4, 0, 1), (yX4_isSeldomHonest, cX4_isSeldomHonest, 1, (some .boolean), 4, 0, 0), (yX4_hasKept, cX4_hasKept, 4, (some .boolean), 4, 0, 2), (yX4_isAlike, cX4_isAlike, 4, (some .boolean), 4, 0, 1), (yX4_countKept, cX4_countKept, 5, none, 4, 0, 2), (yX4_grow, cX4_grow, 4, none, 4, 0, 1), (yX5_init, cX5_init, 1, none, 5, 2, 0), (yX6_init, cX6_init, 2, none, 6, 2, 1), (yX6_isThere, cX6_isThere, 2, (some .boolean), 6, 0, 1), (yX6_count, cX6_count, 3, (some .int), 6, 0, 0), (yX6_choose, cX6_choose, 6, (some .int), 6, 0, 2), (yX6_push, cX6_push, 2, none, 6, 0, 1), (yX6_pop, cX6_pop, 1, (some .int), 6, 0, 0), (yX6_reckon, cX6_reckon, 3, (some .int), 6, 1, 3), (yX6_bound, cX6_bound, 2, (some .int), 6, 1, 1), (yX6_read, cX6_read, 4, (some .int), 6, 0, 1), (yX6_put, cX6_put, 2, none, 6, 0, 1), (yX6_readSizes, cX6_readSizes, 4, (some .int), 6, 0, 0), (yX6_atSizeWord, cX6_atSizeWord, 1, (some .boolean), 6, 0, 0), (yX6_readTest, cX6_readTest, 3, none, 6, 0, 1), (yX6_readBoth, cX6_readBoth, 3, none, 6, 0, 1), (yX6_readFact, cX6_readFact, 2, none, 6, 0, 1), (yX6_enter, cX6_enter, 2, (some .boolean), 6, 0, 1), (yX6_readComparison, cX6_readComparison, 3, none, 6, 0, 1), (yX6_readSum, cX6_readSum, 4, none, 6, 0, 1), (yX6_readProduct, cX6_readProduct, 4, none, 6, 0, 1), (yX6_readPart, cX6_readPart, 3, none, 6, 0, 1), (yX6_readBracket, cX6_readBracket, 3, none, 6, 0, 2), (yX7_init, cX7_init, 1, none, 7, 2, 0), (yX7_putOn, cX7_putOn, 3, none, 7, 0, 2), (yX7_gapOf, cX7_gapOf, 2, (some .int), 7, 1, 2), (yX7_pleasesBy, cX7_pleasesBy, 4, (some .int), 7, 0, 2), (yX7_bestPair, cX7_bestPair, 5, (some .int), 7, 0, 2), (yX7_chanceOf, cX7_chanceOf, 3, (some .int), 7, 0, 2), (yX7_weigh, cX7_weigh, 13, (some .long), 7, 0, 4), (yX7_chanceThat, cX7_chanceThat, 5, (some .int), 7, 0, 3), (yX7_weighAnswer, cX7_weighAnswer, 8, (some .long), 7, 0, 3), (yX7_layOut, cX7_layOut, 5, none, 7, 0, 2), (yX7_keptOf, cX7_keptOf, 7, (some .long), 7, 0, 1), (yX7_learn, cX7_learn, 5, none, 7, 1, 2), (yX7_makeCertain, cX7_makeCertain, 4, none, 7, 1, 1), (yX8_init, cX8_init, 1, none, 8, 2, 0), (yX9_init, cX9_init, 1, none, 9, 2, 0), (yX9_clear, cX9_clear, 1, none, 9, 0, 0), (yX9_day, cX9_day, 1, (some .int), 9, 0, 0), (yX9_onTheWay, cX9_onTheWay, 1, (some .int), 9, 0, 0), (yX9_placeOf, cX9_placeOf, 2, (some .int), 9, 1, 2), (yX9_set, cX9_set, 4, none, 9, 0, 3), (yX9_count, cX9_count, 3, (some .int), 9, 0, 2), (yX9_hasAll, cX9_hasAll, 5, (some .boolean), 9, 0, 3), (yX9_change, cX9_change, 6, none, 9, 0, 4), (yX9_expect, cX9_expect, 6, none, 9, 0, 3), (yX9_pass, cX9_pass, 3, none, 9, 0, 1), (yX9_receive, cX9_receive, 3, none, 9, 0, 1), (yX10_init, cX10_init, 5, none, 10, 2, 0), (yX10_letterOf, cX10_letterOf, 2, (some .int), 10, 1, 2), (yX10_faultFound, cX10_faultFound, 1, (some .int), 10, 0, 0), (yX10_faultPlace, cX10_faultPlace, 1, (some .int), 10, 0, 0), (yX10_start, cX10_start, 1, (some .int), 10, 0, 0), (yX10_open, cX10_open, 3, none, 10, 0, 2), (yX10_advance, cX10_advance, 3, none, 10, 0, 0), (yX10_kindOf, cX10_kindOf, 1, (some .int), 10, 1, 1), (yX10_readWord, cX10_readWord, 2, none, 10, 0, 0), (yX10_readNumber, cX10_readNumber, 2, none, 10, 0, 0), (yX10_atEnd, cX10_atEnd, 1, (some .boolean), 10, 0, 0), (yX10_atNumber, cX10_atNumber, 1, (some .boolean), 10, 0, 0), (yX10_atSign, cX10_atSign, 2, (some .boolean), 10, 0, 1), (yX10_ownWord, cX10_ownWord, 1, (some .int), 10, 0, 0), (yX10_atWord, cX10_atWord, 2, (some .boolean), 10, 0, 1), (yX10_fail, cX10_fail, 3, none, 10, 0, 2), (yX10_failHere, cX10_failHere, 2, none, 10, 0, 1), (yX10_takeWord, cX10_takeWord, 2, none, 10, 0, 1), (yX10_takeSign, cX10_takeSign, 2, none, 10, 0, 1), (yX10_takeNumber, cX10_takeNumber, 4, (some .int), 10, 0, 2), (yX10_takeName, cX10_takeName, 2, (some .int), 10, 0, 0), (yX11_init, cX11_init, 2, none, 11, 2, 0), (yX11_feed, cX11_feed, 6, (some .int), 11, 0, 5), (yX11_putOnTape, cX11_putOnTape, 3, none, 11, 0, 1), (yX11_end, cX11_end, 2, (some .boolean), 11, 0, 1), (yX11_takeTape, cX11_takeTape, 2, (some .int), 11, 0, 0), (yX11_house, cX11_house, 3, (some .int), 11, 0, 0), (yX11_rule, cX11_rule, 4, (some .int), 11, 0, 1), (yX11_keepFault, cX11_keepFault, 1, none, 11, 0, 0), (yX11_fault, cX11_fault, 2, (some .int), 11, 0, 1), (yX11_has, cX11_has, 2, (some .int), 11, 0, 1), (yX11_countBoxesOut, cX11_countBoxesOut, 3, (some .int), 11, 0, 0), (yX11_letter, cX11_letter, 5, (some .int), 11, 0, 3), (yX11_nameOf, cX11_nameOf, 3, (some .int), 11, 0, 2), (yX11_isLast, cX11_isLast, 2, (some .boolean), 11, 0, 1), (yX11_isSort, cX11_isSort, 2, (some .boolean), 11, 0, 1), (yX11_isQuestion, cX11_isQuestion, 2, (some .boolean), 11, 0, 1), (yX11_isPerson, cX11_isPerson, 2, (some .boolean), 11, 0, 1), (yX11_isSize, cX11_isSize, 1, (some .boolean), 11, 1, 1), (yX11_isFoot, cX11_isFoot, 1, (some .boolean), 11, 1, 1), (yX11_isRun, cX11_isRun, 1, (some .boolean), 11, 1, 1), (yX11_isBox, cX11_isBox, 4, (some .boolean), 11, 0, 3), (yX11_isOutcome, cX11_isOutcome, 2, (some .boolean), 11, 1, 2), (yX11_isInBox, cX11_isInBox, 2, (some .boolean), 11, 1, 2), (yX11_sortOf, cX11_sortOf, 2, (some (.object "ThreeSizes$Sort")), 11, 0, 1), (yX11_person, cX11_person, 3, (some .int), 11, 0, 2), (yX11_foot, cX11_foot, 3, (some .int), 11, 0, 2), (yX11_last, cX11_last, 3, (some .int), 11, 0, 2), (yX11_who, cX11_who, 4, (some .int), 11, 0, 2), (yX11_keeps, cX11_keeps, 5, (some .long), 11, 0, 4), (yX11_weigh, cX11_weigh, 6, (some .long), 11, 0, 4), (yX11_after, cX11_after, 6, (some .int), 11, 0, 5), (yX11_teaches, cX11_teaches, 6, (some .int), 11, 0, 5), (yX11_mean, cX11_mean, 6, (some .int), 11, 0, 4), (yX11_plainMean, cX11_plainMean, 4, (some .int), 11, 0, 3), (yX11_layOut, cX11_layOut, 4, none, 11, 0, 3), (yX11_meanOf, cX11_meanOf, 9, (some .int), 11, 0, 3), (yX11_orderedMean, cX11_orderedMean, 5, (some .int), 11, 0, 3), (yX11_best, cX11_best, 5, (some .int), 11, 0, 3), (yX11_bestBits, cX11_bestBits, 9, (some .int), 11, 0, 3), (yX11_bestMean, cX11_bestMean, 5, (some .int), 11, 0, 3), (yX11_box, cX11_box, 5, (some .int), 11, 0, 3), (yX11_tellFacts, cX11_tellFacts, 3, none, 11, 0, 2), (yX11_way, cX11_way, 5, (some .int), 11, 0, 3), (yX11_bitsOfWay, cX11_bitsOfWay, 5, (some .int), 11, 0, 3), (yX11_send, cX11_send, 4, (some .int), 11, 0, 3), (yX11_canSendNow, cX11_canSendNow, 4, (some .boolean), 11, 0, 3), (yX11_sendNow, cX11_sendNow, 4, none, 11, 0, 3), (yX11_back, cX11_back, 3, (some .boolean), 11, 0, 2), (yX11_learnFromBox, cX11_learnFromBox, 4, (some .boolean), 11, 0, 2), (yX11_takeBack, cX11_takeBack, 6, none, 11, 0, 2), (yX11_days, cX11_days, 2, (some .int), 11, 0, 1), (yX11_stock, cX11_stock, 3, (some .int), 11, 0, 2), (yX11_earned, cX11_earned, 1, (some .int), 11, 0, 0), (yX11_answer, cX11_answer, 5, (some .boolean), 11, 0, 3), (yX11_worth, cX11_worth, 5, (some .int), 11, 0, 3), (yX11_worthBeside, cX11_worthBeside, 11, (some .int), 11, 0, 4), (yX11_question, cX11_question, 8, (some .int), 11, 0, 2), (yX11_fee, cX11_fee, 3, (some .int), 11, 0, 1), (yX11_step, cX11_step, 9, (some .int), 11, 0, 3), (yX11_print, cX11_print, 2, (some .int), 11, 0, 1), (yX11_alike, cX11_alike, 3, (some .int), 11, 0, 2), (yX11_strangers, cX11_strangers, 6, (some .int), 11, 0, 2), (yX11_hold, cX11_hold, 8, (some .int), 11, 0, 2), (yX11_year, cX11_year, 2, (some .int), 11, 0, 0), (yX11_draw, cX11_draw, 3, (some .int), 11, 0, 1), (yX11_drawOfCertain, cX11_drawOfCertain, 1, (some .int), 11, 0, 0), (yX11_drawFrom, cX11_drawFrom, 5, (some .int), 11, 0, 1), (yX11_truth, cX11_truth, 2, (some .int), 11, 0, 1), (yX11_trial, cX11_trial, 6, (some .int), 11, 0, 3), (yX11_hasTruth, cX11_hasTruth, 3, (some .boolean), 11, 0, 2), (yX11_drawOutcome, cX11_drawOutcome, 6, (some .int), 11, 0, 3), (yX11_image, cX11_image, 1, (some .int), 11, 0, 0), (yX11_octet, cX11_octet, 2, (some .int), 11, 0, 1), (yX11_on, cX11_on, 2, (some .boolean), 11, 0, 0), (yX11_bringBoxesHome, cX11_bringBoxesHome, 2, none, 11, 0, 0), (yX12_init, cX12_init, 1, none, 12, 2, 0), (yX12_isIn, cX12_isIn, 6, (some .boolean), 12, 1, 3), (yX12_feed, cX12_feed, 8, (some .int), 12, 0, 5), (yX12_end, cX12_end, 2, (some .boolean), 12, 0, 1), (yX12_fail, cX12_fail, 3, none, 12, 0, 2), (yX12_isLetter, cX12_isLetter, 1, (some .boolean), 12, 1, 1), (yX12_isDigit, cX12_isDigit, 1, (some .boolean), 12, 1, 1), (yX12_look, cX12_look, 1, (some .int), 12, 0, 0), (yX12_isHere, cX12_isHere, 4, (some .boolean), 12, 0, 1), (yX12_takes, cX12_takes, 2, (some .boolean), 12, 0, 1), (yX12_asks, cX12_asks, 2, none, 12, 0, 1), (yX12_takesSign, cX12_takesSign, 2, (some .boolean), 12, 0, 1), (yX12_asksSign, cX12_asksSign, 2, none, 12, 0, 1), (yX12_number, cX12_number, 4, (some .int), 12, 0, 2), (yX12_isOwnHere, cX12_isOwnHere, 2, (some .boolean), 12, 0, 0), (yX12_name, cX12_name, 3, (some .long), 12, 0, 0), (yX12_begins, cX12_begins, 1, none, 12, 0, 0), (yX12_nameOf, cX12_nameOf, 5, (some .int), 12, 0, 2), (yX12_newName, cX12_newName, 5, (some .int), 12, 0, 1), (yX12_isFull, cX12_isFull, 4, (some .boolean), 12, 0, 3), (yX12_chances, cX12_chances, 8, none, 12, 0, 4), (yX12_lastTold, cX12_lastTold, 4, none, 12, 0, 1), (yX12_sortTold, cX12_sortTold, 3, none, 12, 0, 1), (yX12_askTold, cX12_askTold, 4, none, 12, 0, 1), (yX12_keepsTold, cX12_keepsTold, 2, none, 12, 0, 0), (yX12_stockTold, cX12_stockTold, 6, none, 12, 0, 0), (yX12_houseTold, cX12_houseTold, 2, none, 12, 0, 0), (yX12_house, cX12_house, 2, (some .int), 12, 0, 0), (yX12_stands, cX12_stands, 3, none, 12, 0, 0), (yX12_code, cX12_code, 2, none, 12, 0, 1), (yX12_opens, cX12_opens, 3, none, 12, 0, 2), (yX12_isOn, cX12_isOn, 2, (some .boolean), 12, 0, 1), (yX12_drops, cX12_drops, 1, none, 12, 0, 0), (yX12_isMark, cX12_isMark, 2, (some .boolean), 12, 0, 1), (yX12_mark, cX12_mark, 2, (some .int), 12, 0, 0), (yX12_dropsToMark, cX12_dropsToMark, 1, none, 12, 0, 0), (yX12_onePart, cX12_onePart, 5, none, 12, 0, 0), (yX12_goesOn, cX12_goesOn, 2, (some .boolean), 12, 0, 0), (yX12_sums, cX12_sums, 3, none, 12, 0, 0), (yX12_fact, cX12_fact, 2, none, 12, 0, 0), (yX12_hasSquare, cX12_hasSquare, 2, (some .boolean), 12, 0, 0), (yX12_dropsNots, cX12_dropsNots, 1, none, 12, 0, 0), (yX12_test, cX12_test, 3, none, 12, 0, 0), (yX12_goesOnTest, cX12_goesOnTest, 1, (some .boolean), 12, 0, 0), (yX12_sizeTold, cX12_sizeTold, 1, (some .int), 12, 0, 0), (yX12_sizesTold, cX12_sizesTold, 7, (some .int), 12, 0, 0), (yX12_sendTold, cX12_sendTold, 2, none, 12, 0, 0), (yX12_rule, cX12_rule, 5, (some .int), 12, 0, 1), (yX12_fault, cX12_fault, 2, (some .int), 12, 0, 1), (yX12_lasts, cX12_lasts, 1, (some .int), 12, 0, 0), (yX12_has, cX12_has, 4, (some .int), 12, 0, 1), (yX12_letter, cX12_letter, 9, (some .int), 12, 0, 3), (yX12_isPerson, cX12_isPerson, 2, (some .boolean), 12, 0, 1), (yX12_isLast, cX12_isLast, 2, (some .boolean), 12, 0, 1), (yX12_comes, cX12_comes, 5, none, 12, 0, 3), (yX12_isAsked, cX12_isAsked, 3, (some .boolean), 12, 0, 2), (yX12_person, cX12_person, 3, (some .int), 12, 0, 2), (yX12_foot, cX12_foot, 3, (some .int), 12, 0, 2), (yX12_last, cX12_last, 3, (some .int), 12, 0, 2), (yX12_pairsKept, cX12_pairsKept, 4, (some .int), 12, 0, 1), (yX12_who, cX12_who, 3, (some .int), 12, 0, 2), (yX12_pairsOf, cX12_pairsOf, 3, (some .int), 12, 1, 1), (yX12_isBox, cX12_isBox, 6, (some .boolean), 12, 0, 3), (yX12_pleases, cX12_pleases, 5, (some .int), 12, 0, 3), (yX12_bestPair, cX12_bestPair, 6, (some .int), 12, 0, 3), (yX12_likely, cX12_likely, 8, (some .int), 12, 0, 5), (yX12_weights, cX12_weights, 11, (some .long), 12, 0, 6), (yX12_keeps, cX12_keeps, 5, (some .long), 12, 0, 4), (yX12_money, cX12_money, 5, (some .int), 12, 0, 3), (yX12_floorOf, cX12_floorOf, 6, (some .long), 12, 1, 2), (yX12_meanOf, cX12_meanOf, 9, (some .int), 12, 0, 3), (yX12_ordered, cX12_ordered, 4, (some .int), 12, 0, 2), (yX12_mean, cX12_mean, 6, (some .int), 12, 0, 4), (yX12_stockAt, cX12_stockAt, 3, (some .int), 12, 0, 2), (yX12_isInStock, cX12_isInStock, 6, (some .boolean), 12, 0, 3), (yX12_bestBox, cX12_bestBox, 8, (some .int), 12, 0, 2), (yX12_best, cX12_best, 5, (some .int), 12, 0, 3), (yX12_clip, cX12_clip, 2, (some .long), 12, 1, 1), (yX12_floor, cX12_floor, 6, (some .long), 12, 1, 2), (yX12_puts, cX12_puts, 3, none, 12, 0, 1), (yX12_joins, cX12_joins, 6, none, 12, 0, 1), (yX12_holds, cX12_holds, 6, (some .boolean), 12, 0, 3), (yX12_asked, cX12_asked, 4, (some .int), 12, 0, 3), (yX12_cut, cX12_cut, 5, (some .int), 12, 0, 2), (yX12_ruled, cX12_ruled, 5, (some .int), 12, 0, 3), (yX12_isRuled, cX12_isRuled, 2, (some .boolean), 12, 0, 1), (yX12_box, cX12_box, 4, (some .int), 12, 0, 3), (yX12_wayBox, cX12_wayBox, 4, (some .int), 12, 0, 3), (yX12_isWay, cX12_isWay, 4, (some .boolean), 12, 0, 3), (yX12_way, cX12_way, 5, (some .int), 12, 0, 3), (yX12_sent, cX12_sent, 5, none, 12, 0, 3), (yX12_send, cX12_send, 4, (some .int), 12, 0, 3), (yX12_takes_, cX12_takes_, 7, none, 12, 0, 3), (yX12_wouldLearn, cX12_wouldLearn, 8, none, 12, 0, 4), (yX12_learns, cX12_learns, 6, none, 12, 0, 4), (yX12_isTaught, cX12_isTaught, 5, (some .boolean), 12, 0, 4), (yX12_after, cX12_after, 6, (some .int), 12, 0, 5), (yX12_teaches, cX12_teaches, 6, (some .int), 12, 0, 5), (yX12_cameBack, cX12_cameBack, 6, none, 12, 0, 2), (yX12_back, cX12_back, 3, (some .boolean), 12, 0, 2), (yX12_days, cX12_days, 4, (some .int), 12, 0, 1), (yX12_stock, cX12_stock, 3, (some .int), 12, 0, 2), (yX12_earned, cX12_earned, 1, (some .int), 12, 0, 0), (yX12_isQuestion, cX12_isQuestion, 2, (some .boolean), 12, 0, 1), (yX12_chance, cX12_chance, 5, (some .int), 12, 0, 3), (yX12_allOf, cX12_allOf, 6, (some .int), 12, 0, 3), (yX12_answered, cX12_answered, 7, none, 12, 0, 3), (yX12_answer, cX12_answer, 4, (some .boolean), 12, 0, 3), (yX12_behind, cX12_behind, 9, (some .long), 12, 0, 4), (yX12_worth, cX12_worth, 7, (some .int), 12, 0, 3), (yX12_question, cX12_question, 7, (some .int), 12, 0, 2), (yX12_fee, cX12_fee, 3, (some .int), 12, 0, 1), (yX12_step, cX12_step, 9, (some .int), 12, 0, 3), (yX12_print, cX12_print, 2, (some .int), 12, 0, 1), (yX12_areAlike, cX12_areAlike, 4, (some .boolean), 12, 0, 2), (yX12_alike, cX12_alike, 3, (some .int), 12, 0, 2), (yX12_strangers, cX12_strangers, 8, (some .int), 12, 0, 2), (yX12_hold, cX12_hold, 8, (some .int), 12, 0, 2), (yX12_year, cX12_year, 6, (some .int), 12, 0, 0), (yX12_drawOf, cX12_drawOf, 2, (some .int), 12, 0, 1), (yX12_drawnOf, cX12_drawnOf, 6, (some .int), 12, 0, 2), (yX12_draw, cX12_draw, 3, (some .int), 12, 0, 1), (yX12_truth, cX12_truth, 2, (some .int), 12, 0, 1), (yX12_trial, cX12_trial, 7, (some .int), 12, 0, 3), (yX12_writes, cX12_writes, 2, none, 12, 0, 1), (yX12_writesTwo, cX12_writesTwo, 2, none, 12, 0, 1), (yX12_checked, cX12_checked, 4, (some .int), 12, 1, 2), (yX12_image, cX12_image, 3, (some .int), 12, 0, 0), (yX12_octet, cX12_octet, 2, (some .int), 12, 0, 1), (yX12_twoAt, cX12_twoAt, 2, (some .int), 12, 0, 1), (yX12_isWhole, cX12_isWhole, 5, (some .boolean), 12, 0, 2), (yX12_isTold, cX12_isTold, 3, (some .boolean), 12, 0, 1), (yX12_on, cX12_on, 4, (some .boolean), 12, 0, 0), (yJ6_bitCount_0f7a4, cJ6_bitCount_0f7a4, 1, (some .int), 16, 1, 1), (yJ9_floorDiv_7cf53, cJ9_floorDiv_7cf53, 3, (some .int), 18, 1, 2), (yJ9_floorDiv_f86c9, cJ9_floorDiv_f86c9, 6, (some .long), 18, 1, 2), (yJ9_floorMod_7cf53, cJ9_floorMod_7cf53, 3, (some .int), 18, 1, 2), (yJ9_max_7cf53, cJ9_max_7cf53, 2, (some .int), 18, 1, 2), (yJ9_max_f86c9, cJ9_max_f86c9, 4, (some .long), 18, 1, 2), (yJ9_min_7cf53, cJ9_min_7cf53, 2, (some .int), 18, 1, 2), (yJ9_min_f86c9, cJ9_min_f86c9, 4, (some .long), 18, 1, 2), (yJ0_length_8abf5, cJ0_length_8abf5, 1, (some .int), 13, 0, 0), (yJ0_charAt_5068e, cJ0_charAt_5068e, 2, (some .char), 13, 0, 1), (yJ0_coder_7d493, cJ0_coder_7d493, 1, (some .byte), 13, 0, 0), (yJ0_isLatin1_aae02, cJ0_isLatin1_aae02, 1, (some .boolean), 13, 0, 0), (yJ0_checkIndex_df160, cJ0_checkIndex_df160, 2, none, 13, 1, 2), (yJ1_charAt_3b067, cJ1_charAt_3b067, 2, (some .char), 14, 1, 2), (yJ7_fill_d0a16, cJ7_fill_d0a16, 5, none, 17, 1, 2), (yJ7_fill_53178, cJ7_fill_53178, 4, none, 17, 1, 2), (yJ7_copyOf_59c91, cJ7_copyOf_59c91, 3, (some (.array .int)), 17, 1, 2), (yJ3_checkIndex_8e157, cJ3_checkIndex_8e157, 3, (some .int), 15, 1, 3), (x, code, 4, some .boolean, 19, 1, 1)]
def zY (m : Nat) : zYI := zYL.getD m (⟨"", "", ""⟩, ⟨#[]⟩, 0, none, 0, 0, 0)
def zYok (q : zYI) : Prop := Cond.code q.1 q.2.1 q.2.2.1 q.2.2.2.1 ∈ lw_tbl ∧ Cond.initialized q.1.cls ∈ lw_tbl ∧ (plainFor q.1 = true ∧ q.1.cls ≠ "java/lang/invoke/MethodHandle" ∧ q.1.cls ≠ "java/lang/invoke/VarHandle" ∧ (parseMethodDescriptor q.1.desc).map (fun d => d.parameters.length) = some q.2.2.2.2.2.2 ∧ zcn q.2.2.2.2.1 = q.1.cls) ∧ (match q.2.2.2.2.2.1 with
  | 0 => Cond.instanceMethod q.1 ∈ lw_tbl ∧ Cond.selects q.1.cls q.1 q.1 ∈ lw_tbl
  | 1 => Cond.static q.1 ∈ lw_tbl
  | _ => Cond.instanceMethod q.1 ∈ lw_tbl ∧ q.1.name = "<init>")
set_option maxRecDepth 100000 in
theorem zpl_0 : plainName (zcn 0) = true ∧ zcn 0 ≠ "java/lang/invoke/MethodHandle" ∧ zcn 0 ≠ "java/lang/invoke/VarHandle" := by decide +kernel
set_option maxRecDepth 100000 in
theorem zpl_1 : plainName (zcn 1) = true ∧ zcn 1 ≠ "java/lang/invoke/MethodHandle" ∧ zcn 1 ≠ "java/lang/invoke/VarHandle" := by decide +kernel
set_option maxRecDepth 100000 in
theorem zpl_2 : plainName (zcn 2) = true ∧ zcn 2 ≠ "java/lang/invoke/MethodHandle" ∧ zcn 2 ≠ "java/lang/invoke/VarHandle" := by decide +kernel
set_option maxRecDepth 100000 in
theorem zpl_3 : plainName (zcn 3) = true ∧ zcn 3 ≠ "java/lang/invoke/MethodHandle" ∧ zcn 3 ≠ "java/lang/invoke/VarHandle" := by decide +kernel
set_option maxRecDepth 100000 in
theorem zpl_4 : plainName (zcn 4) = true ∧ zcn 4 ≠ "java/lang/invoke/MethodHandle" ∧ zcn 4 ≠ "java/lang/invoke/VarHandle" := by decide +kernel
set_option maxRecDepth 100000 in
theorem zpl_5 : plainName (zcn 5) = true ∧ zcn 5 ≠ "java/lang/invoke/MethodHandle" ∧ zcn 5 ≠ "java/lang/invoke/VarHandle" := by decide +kernel
set_option maxRecDepth 100000 in
theorem zpl_6 : plainName (zcn 6) = true ∧ zcn 6 ≠ "java/lang/invoke/MethodHandle" ∧ zcn 6 ≠ "java/lang/invoke/VarHandle" := by decide +kernel
set_option maxRecDepth 100000 in
theorem zpl_7 : plainName (zcn 7) = true ∧ zcn 7 ≠ "java/lang/invoke/MethodHandle" ∧ zcn 7 ≠ "java/lang/invoke/VarHandle" := by decide +kernel
set_option maxRecDepth 100000 in
theorem zpl_8 : plainName (zcn 8) = true ∧ zcn 8 ≠ "java/lang/invoke/MethodHandle" ∧ zcn 8 ≠ "java/lang/invoke/VarHandle" := by decide +kernel
set_option maxRecDepth 100000 in
theorem zpl_9 : plainName (zcn 9) = true ∧ zcn 9 ≠ "java/lang/invoke/MethodHandle" ∧ zcn 9 ≠ "java/lang/invoke/VarHandle" := by decide +kernel
set_option maxRecDepth 100000 in
theorem zpl_10 : plainName (zcn 10) = true ∧ zcn 10 ≠ "java/lang/invoke/MethodHandle" ∧ zcn 10 ≠ "java/lang/invoke/VarHandle" := by decide +kernel
set_option maxRecDepth 100000 in
theorem zpl_11 : plainName (zcn 11) = true ∧ zcn 11 ≠ "java/lang/invoke/MethodHandle" ∧ zcn 11 ≠ "java/lang/invoke/VarHandle" := by decide +kernel
set_option maxRecDepth 100000 in
theorem zpl_12 : plainName (zcn 12) = true ∧ zcn 12 ≠ "java/lang/invoke/MethodHandle" ∧ zcn 12 ≠ "java/lang/invoke/VarHandle" := by decide +kernel
set_option maxRecDepth 100000 in
theorem zpl_13 : plainName (zcn 13) = true ∧ zcn 13 ≠ "java/lang/invoke/MethodHandle" ∧ zcn 13 ≠ "java/lang/invoke/VarHandle" := by decide +kernel
set_option maxRecDepth 100000 in
theorem zpl_14 : plainName (zcn 14) = true ∧ zcn 14 ≠ "java/lang/invoke/MethodHandle" ∧ zcn 14 ≠ "java/lang/invoke/VarHandle" := by decide +kernel
set_option maxRecDepth 100000 in
theorem zpl_15 : plainName (zcn 15) = true ∧ zcn 15 ≠ "java/lang/invoke/MethodHandle" ∧ zcn 15 ≠ "java/lang/invoke/VarHandle" := by decide +kernel
set_option maxRecDepth 100000 in
theorem zpl_16 : plainName (zcn 16) = true ∧ zcn 16 ≠ "java/lang/invoke/MethodHandle" ∧ zcn 16 ≠ "java/lang/invoke/VarHandle" := by decide +kernel
set_option maxRecDepth 100000 in
theorem zpl_17 : plainName (zcn 17) = true ∧ zcn 17 ≠ "java/lang/invoke/MethodHandle" ∧ zcn 17 ≠ "java/lang/invoke/VarHandle" := by decide +kernel
set_option maxRecDepth 100000 in
theorem zpl_18 : plainName (zcn 18) = false ∧ zcn 18 ≠ "java/lang/invoke/MethodHandle" ∧ zcn 18 ≠ "java/lang/invoke/VarHandle" := by decide +kernel
set_option maxRecDepth 100000 in
theorem zpl_19 : plainName (zcn 19) = true ∧ zcn 19 ≠ "java/lang/invoke/MethodHandle" ∧ zcn 19 ≠ "java/lang/invoke/VarHandle" := by decide +kernel
set_option maxRecDepth 100000 in
theorem zy_X0_init : zYok (zY 0) := ⟨zt1 (List.mem_of_getElem? (i := 161) rfl), zt1 (List.mem_of_getElem? (i := 9) rfl), ⟨plainFor_of_name zpl_0.1, zpl_0.2.1, zpl_0.2.2, by decide +kernel, rfl⟩, ⟨zt1 (List.mem_of_getElem? (i := 160) rfl), rfl⟩⟩
set_option maxRecDepth 100000 in
theorem zy_X0_clear : zYok (zY 1) := ⟨zt3 (List.mem_of_getElem? (i := 29) rfl), zt1 (List.mem_of_getElem? (i := 9) rfl), ⟨plainFor_of_name zpl_0.1, zpl_0.2.1, zpl_0.2.2, by decide +kernel, rfl⟩, ⟨zt3 (List.mem_of_getElem? (i := 27) rfl), zt3 (List.mem_of_getElem? (i := 28) rfl)⟩⟩
set_option maxRecDepth 100000 in
theorem zy_X0_lastNamed : zYok (zY 2) := ⟨zt3 (List.mem_of_getElem? (i := 83) rfl), zt1 (List.mem_of_getElem? (i := 9) rfl), ⟨plainFor_of_name zpl_0.1, zpl_0.2.1, zpl_0.2.2, by decide +kernel, rfl⟩, ⟨zt3 (List.mem_of_getElem? (i := 81) rfl), zt3 (List.mem_of_getElem? (i := 82) rfl)⟩⟩
set_option maxRecDepth 100000 in
theorem zy_X0_hasName : zYok (zY 3) := ⟨zt3 (List.mem_of_getElem? (i := 79) rfl), zt1 (List.mem_of_getElem? (i := 9) rfl), ⟨plainFor_of_name zpl_0.1, zpl_0.2.1, zpl_0.2.2, by decide +kernel, rfl⟩, ⟨zt3 (List.mem_of_getElem? (i := 77) rfl), zt3 (List.mem_of_getElem? (i := 78) rfl)⟩⟩
set_option maxRecDepth 100000 in
theorem zy_X0_moneyOfOneKept : zYok (zY 4) := ⟨zt4 (List.mem_of_getElem? (i := 203) rfl), zt1 (List.mem_of_getElem? (i := 9) rfl), ⟨plainFor_of_name zpl_0.1, zpl_0.2.1, zpl_0.2.2, by decide +kernel, rfl⟩, ⟨zt4 (List.mem_of_getElem? (i := 201) rfl), zt4 (List.mem_of_getElem? (i := 202) rfl)⟩⟩
set_option maxRecDepth 100000 in
theorem zy_X0_moneyOfNone : zYok (zY 5) := ⟨zt4 (List.mem_of_getElem? (i := 208) rfl), zt1 (List.mem_of_getElem? (i := 9) rfl), ⟨plainFor_of_name zpl_0.1, zpl_0.2.1, zpl_0.2.2, by decide +kernel, rfl⟩, ⟨zt4 (List.mem_of_getElem? (i := 206) rfl), zt4 (List.mem_of_getElem? (i := 207) rfl)⟩⟩
set_option maxRecDepth 100000 in
theorem zy_X1_init : zYok (zY 6) := ⟨zt1 (List.mem_of_getElem? (i := 124) rfl), zt1 (List.mem_of_getElem? (i := 7) rfl), ⟨plainFor_of_name zpl_1.1, zpl_1.2.1, zpl_1.2.2, by decide +kernel, rfl⟩, ⟨zt1 (List.mem_of_getElem? (i := 123) rfl), rfl⟩⟩
set_option maxRecDepth 100000 in
theorem zy_X1_read : zYok (zY 7) := ⟨zt3 (List.mem_of_getElem? (i := 25) rfl), zt1 (List.mem_of_getElem? (i := 7) rfl), ⟨plainFor_of_name zpl_1.1, zpl_1.2.1, zpl_1.2.2, by decide +kernel, rfl⟩, ⟨zt3 (List.mem_of_getElem? (i := 23) rfl), zt3 (List.mem_of_getElem? (i := 24) rfl)⟩⟩
set_option maxRecDepth 100000 in
theorem zy_X1_readStatement : zYok (zY 8) := ⟨zt3 (List.mem_of_getElem? (i := 45) rfl), zt1 (List.mem_of_getElem? (i := 7) rfl), ⟨plainFor_of_name zpl_1.1, zpl_1.2.1, zpl_1.2.2, by decide +kernel, rfl⟩, ⟨zt3 (List.mem_of_getElem? (i := 44) rfl), zt0 (List.mem_of_getElem? (i := 4) rfl)⟩⟩
set_option maxRecDepth 100000 in
theorem zy_X1_readLast : zYok (zY 9) := ⟨zt3 (List.mem_of_getElem? (i := 53) rfl), zt1 (List.mem_of_getElem? (i := 7) rfl), ⟨plainFor_of_name zpl_1.1, zpl_1.2.1, zpl_1.2.2, by decide +kernel, rfl⟩, ⟨zt3 (List.mem_of_getElem? (i := 52) rfl), zt0 (List.mem_of_getElem? (i := 5) rfl)⟩⟩
set_option maxRecDepth 100000 in
theorem zy_X1_readSort : zYok (zY 10) := ⟨zt3 (List.mem_of_getElem? (i := 105) rfl), zt1 (List.mem_of_getElem? (i := 7) rfl), ⟨plainFor_of_name zpl_1.1, zpl_1.2.1, zpl_1.2.2, by decide +kernel, rfl⟩, ⟨zt3 (List.mem_of_getElem? (i := 104) rfl), zt0 (List.mem_of_getElem? (i := 8) rfl)⟩⟩
set_option maxRecDepth 100000 in
theorem zy_X1_readStock : zYok (zY 11) := ⟨zt3 (List.mem_of_getElem? (i := 113) rfl), zt1 (List.mem_of_getElem? (i := 7) rfl), ⟨plainFor_of_name zpl_1.1, zpl_1.2.1, zpl_1.2.2, by decide +kernel, rfl⟩, ⟨zt3 (List.mem_of_getElem? (i := 112) rfl), zt0 (List.mem_of_getElem? (i := 10) rfl)⟩⟩
set_option maxRecDepth 100000 in
theorem zy_X1_readAsk : zYok (zY 12) := ⟨zt3 (List.mem_of_getElem? (i := 125) rfl), zt1 (List.mem_of_getElem? (i := 7) rfl), ⟨plainFor_of_name zpl_1.1, zpl_1.2.1, zpl_1.2.2, by decide +kernel, rfl⟩, ⟨zt3 (List.mem_of_getElem? (i := 124) rfl), zt0 (List.mem_of_getElem? (i := 11) rfl)⟩⟩
set_option maxRecDepth 100000 in
theorem zy_X1_refuseKnown : zYok (zY 13) := ⟨zt3 (List.mem_of_getElem? (i := 75) rfl), zt1 (List.mem_of_getElem? (i := 7) rfl), ⟨plainFor_of_name zpl_1.1, zpl_1.2.1, zpl_1.2.2, by decide +kernel, rfl⟩, ⟨zt3 (List.mem_of_getElem? (i := 74) rfl), zt0 (List.mem_of_getElem? (i := 6) rfl)⟩⟩
set_option maxRecDepth 100000 in
theorem zy_X1_takeHundreds : zYok (zY 14) := ⟨zt3 (List.mem_of_getElem? (i := 109) rfl), zt1 (List.mem_of_getElem? (i := 7) rfl), ⟨plainFor_of_name zpl_1.1, zpl_1.2.1, zpl_1.2.2, by decide +kernel, rfl⟩, ⟨zt3 (List.mem_of_getElem? (i := 108) rfl), zt0 (List.mem_of_getElem? (i := 9) rfl)⟩⟩
set_option maxRecDepth 100000 in
theorem zy_X1_takeChances : zYok (zY 15) := ⟨zt3 (List.mem_of_getElem? (i := 101) rfl), zt1 (List.mem_of_getElem? (i := 7) rfl), ⟨plainFor_of_name zpl_1.1, zpl_1.2.1, zpl_1.2.2, by decide +kernel, rfl⟩, ⟨zt3 (List.mem_of_getElem? (i := 100) rfl), zt0 (List.mem_of_getElem? (i := 7) rfl)⟩⟩
set_option maxRecDepth 100000 in
theorem zy_X2_init : zYok (zY 16) := ⟨zt2 (List.mem_of_getElem? (i := 109) rfl), zt1 (List.mem_of_getElem? (i := 15) rfl), ⟨plainFor_of_name zpl_2.1, zpl_2.2.1, zpl_2.2.2, by decide +kernel, rfl⟩, ⟨zt2 (List.mem_of_getElem? (i := 108) rfl), rfl⟩⟩
set_option maxRecDepth 100000 in
theorem zy_X2_byteAt : zYok (zY 17) := ⟨zt6 (List.mem_of_getElem? (i := 5) rfl), zt1 (List.mem_of_getElem? (i := 15) rfl), ⟨plainFor_of_name zpl_2.1, zpl_2.2.1, zpl_2.2.2, by decide +kernel, rfl⟩, ⟨zt6 (List.mem_of_getElem? (i := 3) rfl), zt6 (List.mem_of_getElem? (i := 4) rfl)⟩⟩
set_option maxRecDepth 100000 in
theorem zy_X2_write : zYok (zY 18) := ⟨zt5 (List.mem_of_getElem? (i := 226) rfl), zt1 (List.mem_of_getElem? (i := 15) rfl), ⟨plainFor_of_name zpl_2.1, zpl_2.2.1, zpl_2.2.2, by decide +kernel, rfl⟩, ⟨zt5 (List.mem_of_getElem? (i := 224) rfl), zt5 (List.mem_of_getElem? (i := 225) rfl)⟩⟩
set_option maxRecDepth 100000 in
theorem zy_X2_put : zYok (zY 19) := ⟨zt5 (List.mem_of_getElem? (i := 230) rfl), zt1 (List.mem_of_getElem? (i := 15) rfl), ⟨plainFor_of_name zpl_2.1, zpl_2.2.1, zpl_2.2.2, by decide +kernel, rfl⟩, ⟨zt5 (List.mem_of_getElem? (i := 229) rfl), zt0 (List.mem_of_getElem? (i := 57) rfl)⟩⟩
set_option maxRecDepth 100000 in
theorem zy_X2_putRow : zYok (zY 20) := ⟨zt5 (List.mem_of_getElem? (i := 234) rfl), zt1 (List.mem_of_getElem? (i := 15) rfl), ⟨plainFor_of_name zpl_2.1, zpl_2.2.1, zpl_2.2.2, by decide +kernel, rfl⟩, ⟨zt5 (List.mem_of_getElem? (i := 233) rfl), zt0 (List.mem_of_getElem? (i := 58) rfl)⟩⟩
set_option maxRecDepth 100000 in
theorem zy_X2_check : zYok (zY 21) := ⟨zt5 (List.mem_of_getElem? (i := 237) rfl), zt1 (List.mem_of_getElem? (i := 15) rfl), ⟨plainFor_of_name zpl_2.1, zpl_2.2.1, zpl_2.2.2, by decide +kernel, rfl⟩, zt5 (List.mem_of_getElem? (i := 236) rfl)⟩
set_option maxRecDepth 100000 in
theorem zy_X2_personAt : zYok (zY 22) := ⟨zt6 (List.mem_of_getElem? (i := 15) rfl), zt1 (List.mem_of_getElem? (i := 15) rfl), ⟨plainFor_of_name zpl_2.1, zpl_2.2.1, zpl_2.2.2, by decide +kernel, rfl⟩, zt6 (List.mem_of_getElem? (i := 14) rfl)⟩
set_option maxRecDepth 100000 in
theorem zy_X2_isOne : zYok (zY 23) := ⟨zt6 (List.mem_of_getElem? (i := 12) rfl), zt1 (List.mem_of_getElem? (i := 15) rfl), ⟨plainFor_of_name zpl_2.1, zpl_2.2.1, zpl_2.2.2, by decide +kernel, rfl⟩, zt6 (List.mem_of_getElem? (i := 11) rfl)⟩
set_option maxRecDepth 100000 in
theorem zy_X2_isPersonAt : zYok (zY 24) := ⟨zt6 (List.mem_of_getElem? (i := 18) rfl), zt1 (List.mem_of_getElem? (i := 15) rfl), ⟨plainFor_of_name zpl_2.1, zpl_2.2.1, zpl_2.2.2, by decide +kernel, rfl⟩, zt6 (List.mem_of_getElem? (i := 17) rfl)⟩
set_option maxRecDepth 100000 in
theorem zy_X2_numberAt : zYok (zY 25) := ⟨zt6 (List.mem_of_getElem? (i := 25) rfl), zt1 (List.mem_of_getElem? (i := 15) rfl), ⟨plainFor_of_name zpl_2.1, zpl_2.2.1, zpl_2.2.2, by decide +kernel, rfl⟩, zt6 (List.mem_of_getElem? (i := 24) rfl)⟩
set_option maxRecDepth 100000 in
theorem zy_X2_isCertain : zYok (zY 26) := ⟨zt6 (List.mem_of_getElem? (i := 22) rfl), zt1 (List.mem_of_getElem? (i := 15) rfl), ⟨plainFor_of_name zpl_2.1, zpl_2.2.1, zpl_2.2.2, by decide +kernel, rfl⟩, zt6 (List.mem_of_getElem? (i := 21) rfl)⟩
set_option maxRecDepth 100000 in
theorem zy_X2_takeRow : zYok (zY 27) := ⟨zt6 (List.mem_of_getElem? (i := 37) rfl), zt1 (List.mem_of_getElem? (i := 15) rfl), ⟨plainFor_of_name zpl_2.1, zpl_2.2.1, zpl_2.2.2, by decide +kernel, rfl⟩, zt6 (List.mem_of_getElem? (i := 36) rfl)⟩
set_option maxRecDepth 100000 in
theorem zy_X2_takePeople : zYok (zY 28) := ⟨zt6 (List.mem_of_getElem? (i := 32) rfl), zt1 (List.mem_of_getElem? (i := 15) rfl), ⟨plainFor_of_name zpl_2.1, zpl_2.2.1, zpl_2.2.2, by decide +kernel, rfl⟩, zt6 (List.mem_of_getElem? (i := 31) rfl)⟩
set_option maxRecDepth 100000 in
theorem zy_X2_takeRuns : zYok (zY 29) := ⟨zt6 (List.mem_of_getElem? (i := 40) rfl), zt1 (List.mem_of_getElem? (i := 15) rfl), ⟨plainFor_of_name zpl_2.1, zpl_2.2.1, zpl_2.2.2, by decide +kernel, rfl⟩, zt6 (List.mem_of_getElem? (i := 39) rfl)⟩
set_option maxRecDepth 100000 in
theorem zy_X3_init : zYok (zY 30) := ⟨zt1 (List.mem_of_getElem? (i := 191) rfl), zt1 (List.mem_of_getElem? (i := 11) rfl), ⟨plainFor_of_name zpl_3.1, zpl_3.2.1, zpl_3.2.2, by decide +kernel, rfl⟩, ⟨zt1 (List.mem_of_getElem? (i := 190) rfl), rfl⟩⟩
set_option maxRecDepth 100000 in
theorem zy_X3_lean : zYok (zY 31) := ⟨zt5 (List.mem_of_getElem? (i := 147) rfl), zt1 (List.mem_of_getElem? (i := 11) rfl), ⟨plainFor_of_name zpl_3.1, zpl_3.2.1, zpl_3.2.2, by decide +kernel, rfl⟩, ⟨zt5 (List.mem_of_getElem? (i := 145) rfl), zt5 (List.mem_of_getElem? (i := 146) rfl)⟩⟩
set_option maxRecDepth 100000 in
theorem zy_X4_init : zYok (zY 32) := ⟨zt2 (List.mem_of_getElem? (i := 121) rfl), zt1 (List.mem_of_getElem? (i := 16) rfl), ⟨plainFor_of_name zpl_4.1, zpl_4.2.1, zpl_4.2.2, by decide +kernel, rfl⟩, ⟨zt2 (List.mem_of_getElem? (i := 120) rfl), rfl⟩⟩
set_option maxRecDepth 100000 in
theorem zy_X4_begin : zYok (zY 33) := ⟨zt4 (List.mem_of_getElem? (i := 56) rfl), zt1 (List.mem_of_getElem? (i := 16) rfl), ⟨plainFor_of_name zpl_4.1, zpl_4.2.1, zpl_4.2.2, by decide +kernel, rfl⟩, ⟨zt4 (List.mem_of_getElem? (i := 54) rfl), zt4 (List.mem_of_getElem? (i := 55) rfl)⟩⟩
set_option maxRecDepth 100000 in
theorem zy_X4_hasBox : zYok (zY 34) := ⟨zt4 (List.mem_of_getElem? (i := 14) rfl), zt1 (List.mem_of_getElem? (i := 16) rfl), ⟨plainFor_of_name zpl_4.1, zpl_4.2.1, zpl_4.2.2, by decide +kernel, rfl⟩, ⟨zt4 (List.mem_of_getElem? (i := 12) rfl), zt4 (List.mem_of_getElem? (i := 13) rfl)⟩⟩
set_option maxRecDepth 100000 in
theorem zy_X4_canBeSent : zYok (zY 35) := ⟨zt4 (List.mem_of_getElem? (i := 96) rfl), zt1 (List.mem_of_getElem? (i := 16) rfl), ⟨plainFor_of_name zpl_4.1, zpl_4.2.1, zpl_4.2.2, by decide +kernel, rfl⟩, ⟨zt4 (List.mem_of_getElem? (i := 94) rfl), zt4 (List.mem_of_getElem? (i := 95) rfl)⟩⟩
set_option maxRecDepth 100000 in
theorem zy_X4_withinSizes : zYok (zY 36) := ⟨zt4 (List.mem_of_getElem? (i := 106) rfl), zt1 (List.mem_of_getElem? (i := 16) rfl), ⟨plainFor_of_name zpl_4.1, zpl_4.2.1, zpl_4.2.2, by decide +kernel, rfl⟩, ⟨zt4 (List.mem_of_getElem? (i := 104) rfl), zt4 (List.mem_of_getElem? (i := 105) rfl)⟩⟩
set_option maxRecDepth 100000 in
theorem zy_X4_endBox : zYok (zY 37) := ⟨zt5 (List.mem_of_getElem? (i := 89) rfl), zt1 (List.mem_of_getElem? (i := 16) rfl), ⟨plainFor_of_name zpl_4.1, zpl_4.2.1, zpl_4.2.2, by decide +kernel, rfl⟩, ⟨zt5 (List.mem_of_getElem? (i := 87) rfl), zt5 (List.mem_of_getElem? (i := 88) rfl)⟩⟩
set_option maxRecDepth 100000 in
theorem zy_X4_isSeldomHonest : zYok (zY 38) := ⟨zt4 (List.mem_of_getElem? (i := 84) rfl), zt1 (List.mem_of_getElem? (i := 16) rfl), ⟨plainFor_of_name zpl_4.1, zpl_4.2.1, zpl_4.2.2, by decide +kernel, rfl⟩, ⟨zt4 (List.mem_of_getElem? (i := 82) rfl), zt4 (List.mem_of_getElem? (i := 83) rfl)⟩⟩
set_option maxRecDepth 100000 in
theorem zy_X4_hasKept : zYok (zY 39) := ⟨zt5 (List.mem_of_getElem? (i := 159) rfl), zt1 (List.mem_of_getElem? (i := 16) rfl), ⟨plainFor_of_name zpl_4.1, zpl_4.2.1, zpl_4.2.2, by decide +kernel, rfl⟩, ⟨zt5 (List.mem_of_getElem? (i := 158) rfl), zt0 (List.mem_of_getElem? (i := 52) rfl)⟩⟩
set_option maxRecDepth 100000 in
theorem zy_X4_isAlike : zYok (zY 40) := ⟨zt5 (List.mem_of_getElem? (i := 155) rfl), zt1 (List.mem_of_getElem? (i := 16) rfl), ⟨plainFor_of_name zpl_4.1, zpl_4.2.1, zpl_4.2.2, by decide +kernel, rfl⟩, ⟨zt5 (List.mem_of_getElem? (i := 153) rfl), zt5 (List.mem_of_getElem? (i := 154) rfl)⟩⟩
set_option maxRecDepth 100000 in
theorem zy_X4_countKept : zYok (zY 41) := ⟨zt5 (List.mem_of_getElem? (i := 168) rfl), zt1 (List.mem_of_getElem? (i := 16) rfl), ⟨plainFor_of_name zpl_4.1, zpl_4.2.1, zpl_4.2.2, by decide +kernel, rfl⟩, ⟨zt5 (List.mem_of_getElem? (i := 166) rfl), zt5 (List.mem_of_getElem? (i := 167) rfl)⟩⟩
set_option maxRecDepth 100000 in
theorem zy_X4_grow : zYok (zY 42) := ⟨zt5 (List.mem_of_getElem? (i := 181) rfl), zt1 (List.mem_of_getElem? (i := 16) rfl), ⟨plainFor_of_name zpl_4.1, zpl_4.2.1, zpl_4.2.2, by decide +kernel, rfl⟩, ⟨zt5 (List.mem_of_getElem? (i := 179) rfl), zt5 (List.mem_of_getElem? (i := 180) rfl)⟩⟩
set_option maxRecDepth 100000 in
theorem zy_X5_init : zYok (zY 43) := ⟨zt2 (List.mem_of_getElem? (i := 6) rfl), zt1 (List.mem_of_getElem? (i := 13) rfl), ⟨plainFor_of_name zpl_5.1, zpl_5.2.1, zpl_5.2.2, by decide +kernel, rfl⟩, ⟨zt2 (List.mem_of_getElem? (i := 5) rfl), rfl⟩⟩
set_option maxRecDepth 100000 in
theorem zy_X6_init : zYok (zY 44) := ⟨zt1 (List.mem_of_getElem? (i := 134) rfl), zt1 (List.mem_of_getElem? (i := 8) rfl), ⟨plainFor_of_name zpl_6.1, zpl_6.2.1, zpl_6.2.2, by decide +kernel, rfl⟩, ⟨zt1 (List.mem_of_getElem? (i := 133) rfl), rfl⟩⟩
set_option maxRecDepth 100000 in
theorem zy_X6_isThere : zYok (zY 45) := ⟨zt4 (List.mem_of_getElem? (i := 6) rfl), zt1 (List.mem_of_getElem? (i := 8) rfl), ⟨plainFor_of_name zpl_6.1, zpl_6.2.1, zpl_6.2.2, by decide +kernel, rfl⟩, ⟨zt4 (List.mem_of_getElem? (i := 4) rfl), zt4 (List.mem_of_getElem? (i := 5) rfl)⟩⟩
set_option maxRecDepth 100000 in
theorem zy_X6_count : zYok (zY 46) := ⟨zt4 (List.mem_of_getElem? (i := 2) rfl), zt1 (List.mem_of_getElem? (i := 8) rfl), ⟨plainFor_of_name zpl_6.1, zpl_6.2.1, zpl_6.2.2, by decide +kernel, rfl⟩, ⟨zt4 (List.mem_of_getElem? (i := 0) rfl), zt4 (List.mem_of_getElem? (i := 1) rfl)⟩⟩
set_option maxRecDepth 100000 in
theorem zy_X6_choose : zYok (zY 47) := ⟨zt5 (List.mem_of_getElem? (i := 12) rfl), zt1 (List.mem_of_getElem? (i := 8) rfl), ⟨plainFor_of_name zpl_6.1, zpl_6.2.1, zpl_6.2.2, by decide +kernel, rfl⟩, ⟨zt5 (List.mem_of_getElem? (i := 10) rfl), zt5 (List.mem_of_getElem? (i := 11) rfl)⟩⟩
set_option maxRecDepth 100000 in
theorem zy_X6_push : zYok (zY 48) := ⟨zt5 (List.mem_of_getElem? (i := 16) rfl), zt1 (List.mem_of_getElem? (i := 8) rfl), ⟨plainFor_of_name zpl_6.1, zpl_6.2.1, zpl_6.2.2, by decide +kernel, rfl⟩, ⟨zt5 (List.mem_of_getElem? (i := 15) rfl), zt0 (List.mem_of_getElem? (i := 43) rfl)⟩⟩
set_option maxRecDepth 100000 in
theorem zy_X6_pop : zYok (zY 49) := ⟨zt5 (List.mem_of_getElem? (i := 20) rfl), zt1 (List.mem_of_getElem? (i := 8) rfl), ⟨plainFor_of_name zpl_6.1, zpl_6.2.1, zpl_6.2.2, by decide +kernel, rfl⟩, ⟨zt5 (List.mem_of_getElem? (i := 19) rfl), zt0 (List.mem_of_getElem? (i := 44) rfl)⟩⟩
set_option maxRecDepth 100000 in
theorem zy_X6_reckon : zYok (zY 50) := ⟨zt5 (List.mem_of_getElem? (i := 23) rfl), zt1 (List.mem_of_getElem? (i := 8) rfl), ⟨plainFor_of_name zpl_6.1, zpl_6.2.1, zpl_6.2.2, by decide +kernel, rfl⟩, zt5 (List.mem_of_getElem? (i := 22) rfl)⟩
set_option maxRecDepth 100000 in
theorem zy_X6_bound : zYok (zY 51) := ⟨zt5 (List.mem_of_getElem? (i := 26) rfl), zt1 (List.mem_of_getElem? (i := 8) rfl), ⟨plainFor_of_name zpl_6.1, zpl_6.2.1, zpl_6.2.2, by decide +kernel, rfl⟩, zt5 (List.mem_of_getElem? (i := 25) rfl)⟩
set_option maxRecDepth 100000 in
theorem zy_X6_read : zYok (zY 52) := ⟨zt3 (List.mem_of_getElem? (i := 154) rfl), zt1 (List.mem_of_getElem? (i := 8) rfl), ⟨plainFor_of_name zpl_6.1, zpl_6.2.1, zpl_6.2.2, by decide +kernel, rfl⟩, ⟨zt3 (List.mem_of_getElem? (i := 152) rfl), zt3 (List.mem_of_getElem? (i := 153) rfl)⟩⟩
set_option maxRecDepth 100000 in
theorem zy_X6_put : zYok (zY 53) := ⟨zt3 (List.mem_of_getElem? (i := 184) rfl), zt1 (List.mem_of_getElem? (i := 8) rfl), ⟨plainFor_of_name zpl_6.1, zpl_6.2.1, zpl_6.2.2, by decide +kernel, rfl⟩, ⟨zt3 (List.mem_of_getElem? (i := 183) rfl), zt0 (List.mem_of_getElem? (i := 18) rfl)⟩⟩
set_option maxRecDepth 100000 in
theorem zy_X6_readSizes : zYok (zY 54) := ⟨zt3 (List.mem_of_getElem? (i := 160) rfl), zt1 (List.mem_of_getElem? (i := 8) rfl), ⟨plainFor_of_name zpl_6.1, zpl_6.2.1, zpl_6.2.2, by decide +kernel, rfl⟩, ⟨zt3 (List.mem_of_getElem? (i := 159) rfl), zt0 (List.mem_of_getElem? (i := 13) rfl)⟩⟩
set_option maxRecDepth 100000 in
theorem zy_X6_atSizeWord : zYok (zY 55) := ⟨zt3 (List.mem_of_getElem? (i := 164) rfl), zt1 (List.mem_of_getElem? (i := 8) rfl), ⟨plainFor_of_name zpl_6.1, zpl_6.2.1, zpl_6.2.2, by decide +kernel, rfl⟩, ⟨zt3 (List.mem_of_getElem? (i := 163) rfl), zt0 (List.mem_of_getElem? (i := 14) rfl)⟩⟩
set_option maxRecDepth 100000 in
theorem zy_X6_readTest : zYok (zY 56) := ⟨zt3 (List.mem_of_getElem? (i := 171) rfl), zt1 (List.mem_of_getElem? (i := 8) rfl), ⟨plainFor_of_name zpl_6.1, zpl_6.2.1, zpl_6.2.2, by decide +kernel, rfl⟩, ⟨zt3 (List.mem_of_getElem? (i := 170) rfl), zt0 (List.mem_of_getElem? (i := 15) rfl)⟩⟩
set_option maxRecDepth 100000 in
theorem zy_X6_readBoth : zYok (zY 57) := ⟨zt3 (List.mem_of_getElem? (i := 175) rfl), zt1 (List.mem_of_getElem? (i := 8) rfl), ⟨plainFor_of_name zpl_6.1, zpl_6.2.1, zpl_6.2.2, by decide +kernel, rfl⟩, ⟨zt3 (List.mem_of_getElem? (i := 174) rfl), zt0 (List.mem_of_getElem? (i := 16) rfl)⟩⟩
set_option maxRecDepth 100000 in
theorem zy_X6_readFact : zYok (zY 58) := ⟨zt3 (List.mem_of_getElem? (i := 179) rfl), zt1 (List.mem_of_getElem? (i := 8) rfl), ⟨plainFor_of_name zpl_6.1, zpl_6.2.1, zpl_6.2.2, by decide +kernel, rfl⟩, ⟨zt3 (List.mem_of_getElem? (i := 178) rfl), zt0 (List.mem_of_getElem? (i := 17) rfl)⟩⟩
set_option maxRecDepth 100000 in
theorem zy_X6_enter : zYok (zY 59) := ⟨zt3 (List.mem_of_getElem? (i := 188) rfl), zt1 (List.mem_of_getElem? (i := 8) rfl), ⟨plainFor_of_name zpl_6.1, zpl_6.2.1, zpl_6.2.2, by decide +kernel, rfl⟩, ⟨zt3 (List.mem_of_getElem? (i := 187) rfl), zt0 (List.mem_of_getElem? (i := 19) rfl)⟩⟩
set_option maxRecDepth 100000 in
theorem zy_X6_readComparison : zYok (zY 60) := ⟨zt3 (List.mem_of_getElem? (i := 194) rfl), zt1 (List.mem_of_getElem? (i := 8) rfl), ⟨plainFor_of_name zpl_6.1, zpl_6.2.1, zpl_6.2.2, by decide +kernel, rfl⟩, ⟨zt3 (List.mem_of_getElem? (i := 193) rfl), zt0 (List.mem_of_getElem? (i := 20) rfl)⟩⟩
set_option maxRecDepth 100000 in
theorem zy_X6_readSum : zYok (zY 61) := ⟨zt3 (List.mem_of_getElem? (i := 198) rfl), zt1 (List.mem_of_getElem? (i := 8) rfl), ⟨plainFor_of_name zpl_6.1, zpl_6.2.1, zpl_6.2.2, by decide +kernel, rfl⟩, ⟨zt3 (List.mem_of_getElem? (i := 197) rfl), zt0 (List.mem_of_getElem? (i := 21) rfl)⟩⟩
set_option maxRecDepth 100000 in
theorem zy_X6_readProduct : zYok (zY 62) := ⟨zt3 (List.mem_of_getElem? (i := 202) rfl), zt1 (List.mem_of_getElem? (i := 8) rfl), ⟨plainFor_of_name zpl_6.1, zpl_6.2.1, zpl_6.2.2, by decide +kernel, rfl⟩, ⟨zt3 (List.mem_of_getElem? (i := 201) rfl), zt0 (List.mem_of_getElem? (i := 22) rfl)⟩⟩
set_option maxRecDepth 100000 in
theorem zy_X6_readPart : zYok (zY 63) := ⟨zt3 (List.mem_of_getElem? (i := 206) rfl), zt1 (List.mem_of_getElem? (i := 8) rfl), ⟨plainFor_of_name zpl_6.1, zpl_6.2.1, zpl_6.2.2, by decide +kernel, rfl⟩, ⟨zt3 (List.mem_of_getElem? (i := 205) rfl), zt0 (List.mem_of_getElem? (i := 23) rfl)⟩⟩
set_option maxRecDepth 100000 in
theorem zy_X6_readBracket : zYok (zY 64) := ⟨zt3 (List.mem_of_getElem? (i := 215) rfl), zt1 (List.mem_of_getElem? (i := 8) rfl), ⟨plainFor_of_name zpl_6.1, zpl_6.2.1, zpl_6.2.2, by decide +kernel, rfl⟩, ⟨zt3 (List.mem_of_getElem? (i := 214) rfl), zt0 (List.mem_of_getElem? (i := 24) rfl)⟩⟩
set_option maxRecDepth 100000 in
theorem zy_X7_init : zYok (zY 65) := ⟨zt2 (List.mem_of_getElem? (i := 84) rfl), zt1 (List.mem_of_getElem? (i := 14) rfl), ⟨plainFor_of_name zpl_7.1, zpl_7.2.1, zpl_7.2.2, by decide +kernel, rfl⟩, ⟨zt2 (List.mem_of_getElem? (i := 83) rfl), rfl⟩⟩
set_option maxRecDepth 100000 in
theorem zy_X7_putOn : zYok (zY 66) := ⟨zt4 (List.mem_of_getElem? (i := 127) rfl), zt1 (List.mem_of_getElem? (i := 14) rfl), ⟨plainFor_of_name zpl_7.1, zpl_7.2.1, zpl_7.2.2, by decide +kernel, rfl⟩, ⟨zt4 (List.mem_of_getElem? (i := 125) rfl), zt4 (List.mem_of_getElem? (i := 126) rfl)⟩⟩
set_option maxRecDepth 100000 in
theorem zy_X7_gapOf : zYok (zY 67) := ⟨zt4 (List.mem_of_getElem? (i := 137) rfl), zt1 (List.mem_of_getElem? (i := 14) rfl), ⟨plainFor_of_name zpl_7.1, zpl_7.2.1, zpl_7.2.2, by decide +kernel, rfl⟩, zt4 (List.mem_of_getElem? (i := 136) rfl)⟩
set_option maxRecDepth 100000 in
theorem zy_X7_pleasesBy : zYok (zY 68) := ⟨zt4 (List.mem_of_getElem? (i := 150) rfl), zt1 (List.mem_of_getElem? (i := 14) rfl), ⟨plainFor_of_name zpl_7.1, zpl_7.2.1, zpl_7.2.2, by decide +kernel, rfl⟩, ⟨zt4 (List.mem_of_getElem? (i := 149) rfl), zt0 (List.mem_of_getElem? (i := 35) rfl)⟩⟩
set_option maxRecDepth 100000 in
theorem zy_X7_bestPair : zYok (zY 69) := ⟨zt4 (List.mem_of_getElem? (i := 145) rfl), zt1 (List.mem_of_getElem? (i := 14) rfl), ⟨plainFor_of_name zpl_7.1, zpl_7.2.1, zpl_7.2.2, by decide +kernel, rfl⟩, ⟨zt4 (List.mem_of_getElem? (i := 143) rfl), zt4 (List.mem_of_getElem? (i := 144) rfl)⟩⟩
set_option maxRecDepth 100000 in
theorem zy_X7_chanceOf : zYok (zY 70) := ⟨zt4 (List.mem_of_getElem? (i := 154) rfl), zt1 (List.mem_of_getElem? (i := 14) rfl), ⟨plainFor_of_name zpl_7.1, zpl_7.2.1, zpl_7.2.2, by decide +kernel, rfl⟩, ⟨zt4 (List.mem_of_getElem? (i := 152) rfl), zt4 (List.mem_of_getElem? (i := 153) rfl)⟩⟩
set_option maxRecDepth 100000 in
theorem zy_X7_weigh : zYok (zY 71) := ⟨zt4 (List.mem_of_getElem? (i := 131) rfl), zt1 (List.mem_of_getElem? (i := 14) rfl), ⟨plainFor_of_name zpl_7.1, zpl_7.2.1, zpl_7.2.2, by decide +kernel, rfl⟩, ⟨zt4 (List.mem_of_getElem? (i := 129) rfl), zt4 (List.mem_of_getElem? (i := 130) rfl)⟩⟩
set_option maxRecDepth 100000 in
theorem zy_X7_chanceThat : zYok (zY 72) := ⟨zt4 (List.mem_of_getElem? (i := 141) rfl), zt1 (List.mem_of_getElem? (i := 14) rfl), ⟨plainFor_of_name zpl_7.1, zpl_7.2.1, zpl_7.2.2, by decide +kernel, rfl⟩, ⟨zt4 (List.mem_of_getElem? (i := 140) rfl), zt0 (List.mem_of_getElem? (i := 34) rfl)⟩⟩
set_option maxRecDepth 100000 in
theorem zy_X7_weighAnswer : zYok (zY 73) := ⟨zt5 (List.mem_of_getElem? (i := 118) rfl), zt1 (List.mem_of_getElem? (i := 14) rfl), ⟨plainFor_of_name zpl_7.1, zpl_7.2.1, zpl_7.2.2, by decide +kernel, rfl⟩, ⟨zt5 (List.mem_of_getElem? (i := 116) rfl), zt5 (List.mem_of_getElem? (i := 117) rfl)⟩⟩
set_option maxRecDepth 100000 in
theorem zy_X7_layOut : zYok (zY 74) := ⟨zt4 (List.mem_of_getElem? (i := 187) rfl), zt1 (List.mem_of_getElem? (i := 14) rfl), ⟨plainFor_of_name zpl_7.1, zpl_7.2.1, zpl_7.2.2, by decide +kernel, rfl⟩, ⟨zt4 (List.mem_of_getElem? (i := 185) rfl), zt4 (List.mem_of_getElem? (i := 186) rfl)⟩⟩
set_option maxRecDepth 100000 in
theorem zy_X7_keptOf : zYok (zY 75) := ⟨zt4 (List.mem_of_getElem? (i := 195) rfl), zt1 (List.mem_of_getElem? (i := 14) rfl), ⟨plainFor_of_name zpl_7.1, zpl_7.2.1, zpl_7.2.2, by decide +kernel, rfl⟩, ⟨zt4 (List.mem_of_getElem? (i := 193) rfl), zt4 (List.mem_of_getElem? (i := 194) rfl)⟩⟩
set_option maxRecDepth 100000 in
theorem zy_X7_learn : zYok (zY 76) := ⟨zt4 (List.mem_of_getElem? (i := 162) rfl), zt1 (List.mem_of_getElem? (i := 14) rfl), ⟨plainFor_of_name zpl_7.1, zpl_7.2.1, zpl_7.2.2, by decide +kernel, rfl⟩, zt4 (List.mem_of_getElem? (i := 161) rfl)⟩
set_option maxRecDepth 100000 in
theorem zy_X7_makeCertain : zYok (zY 77) := ⟨zt4 (List.mem_of_getElem? (i := 166) rfl), zt1 (List.mem_of_getElem? (i := 14) rfl), ⟨plainFor_of_name zpl_7.1, zpl_7.2.1, zpl_7.2.2, by decide +kernel, rfl⟩, zt4 (List.mem_of_getElem? (i := 165) rfl)⟩
set_option maxRecDepth 100000 in
theorem zy_X8_init : zYok (zY 78) := ⟨zt1 (List.mem_of_getElem? (i := 218) rfl), zt1 (List.mem_of_getElem? (i := 12) rfl), ⟨plainFor_of_name zpl_8.1, zpl_8.2.1, zpl_8.2.2, by decide +kernel, rfl⟩, ⟨zt1 (List.mem_of_getElem? (i := 217) rfl), rfl⟩⟩
set_option maxRecDepth 100000 in
theorem zy_X9_init : zYok (zY 79) := ⟨zt1 (List.mem_of_getElem? (i := 173) rfl), zt1 (List.mem_of_getElem? (i := 10) rfl), ⟨plainFor_of_name zpl_9.1, zpl_9.2.1, zpl_9.2.2, by decide +kernel, rfl⟩, ⟨zt1 (List.mem_of_getElem? (i := 172) rfl), rfl⟩⟩
set_option maxRecDepth 100000 in
theorem zy_X9_clear : zYok (zY 80) := ⟨zt3 (List.mem_of_getElem? (i := 36) rfl), zt1 (List.mem_of_getElem? (i := 10) rfl), ⟨plainFor_of_name zpl_9.1, zpl_9.2.1, zpl_9.2.2, by decide +kernel, rfl⟩, ⟨zt3 (List.mem_of_getElem? (i := 34) rfl), zt3 (List.mem_of_getElem? (i := 35) rfl)⟩⟩
set_option maxRecDepth 100000 in
theorem zy_X9_day : zYok (zY 81) := ⟨zt4 (List.mem_of_getElem? (i := 18) rfl), zt1 (List.mem_of_getElem? (i := 10) rfl), ⟨plainFor_of_name zpl_9.1, zpl_9.2.1, zpl_9.2.2, by decide +kernel, rfl⟩, ⟨zt4 (List.mem_of_getElem? (i := 16) rfl), zt4 (List.mem_of_getElem? (i := 17) rfl)⟩⟩
set_option maxRecDepth 100000 in
theorem zy_X9_onTheWay : zYok (zY 82) := ⟨zt4 (List.mem_of_getElem? (i := 22) rfl), zt1 (List.mem_of_getElem? (i := 10) rfl), ⟨plainFor_of_name zpl_9.1, zpl_9.2.1, zpl_9.2.2, by decide +kernel, rfl⟩, ⟨zt4 (List.mem_of_getElem? (i := 20) rfl), zt4 (List.mem_of_getElem? (i := 21) rfl)⟩⟩
set_option maxRecDepth 100000 in
theorem zy_X9_placeOf : zYok (zY 83) := ⟨zt3 (List.mem_of_getElem? (i := 121) rfl), zt1 (List.mem_of_getElem? (i := 10) rfl), ⟨plainFor_of_name zpl_9.1, zpl_9.2.1, zpl_9.2.2, by decide +kernel, rfl⟩, zt3 (List.mem_of_getElem? (i := 120) rfl)⟩
set_option maxRecDepth 100000 in
theorem zy_X9_set : zYok (zY 84) := ⟨zt3 (List.mem_of_getElem? (i := 118) rfl), zt1 (List.mem_of_getElem? (i := 10) rfl), ⟨plainFor_of_name zpl_9.1, zpl_9.2.1, zpl_9.2.2, by decide +kernel, rfl⟩, ⟨zt3 (List.mem_of_getElem? (i := 116) rfl), zt3 (List.mem_of_getElem? (i := 117) rfl)⟩⟩
set_option maxRecDepth 100000 in
theorem zy_X9_count : zYok (zY 85) := ⟨zt4 (List.mem_of_getElem? (i := 239) rfl), zt1 (List.mem_of_getElem? (i := 10) rfl), ⟨plainFor_of_name zpl_9.1, zpl_9.2.1, zpl_9.2.2, by decide +kernel, rfl⟩, ⟨zt4 (List.mem_of_getElem? (i := 237) rfl), zt4 (List.mem_of_getElem? (i := 238) rfl)⟩⟩
set_option maxRecDepth 100000 in
theorem zy_X9_hasAll : zYok (zY 86) := ⟨zt4 (List.mem_of_getElem? (i := 234) rfl), zt1 (List.mem_of_getElem? (i := 10) rfl), ⟨plainFor_of_name zpl_9.1, zpl_9.2.1, zpl_9.2.2, by decide +kernel, rfl⟩, ⟨zt4 (List.mem_of_getElem? (i := 232) rfl), zt4 (List.mem_of_getElem? (i := 233) rfl)⟩⟩
set_option maxRecDepth 100000 in
theorem zy_X9_change : zYok (zY 87) := ⟨zt5 (List.mem_of_getElem? (i := 66) rfl), zt1 (List.mem_of_getElem? (i := 10) rfl), ⟨plainFor_of_name zpl_9.1, zpl_9.2.1, zpl_9.2.2, by decide +kernel, rfl⟩, ⟨zt5 (List.mem_of_getElem? (i := 64) rfl), zt5 (List.mem_of_getElem? (i := 65) rfl)⟩⟩
set_option maxRecDepth 100000 in
theorem zy_X9_expect : zYok (zY 88) := ⟨zt5 (List.mem_of_getElem? (i := 82) rfl), zt1 (List.mem_of_getElem? (i := 10) rfl), ⟨plainFor_of_name zpl_9.1, zpl_9.2.1, zpl_9.2.2, by decide +kernel, rfl⟩, ⟨zt5 (List.mem_of_getElem? (i := 80) rfl), zt5 (List.mem_of_getElem? (i := 81) rfl)⟩⟩
set_option maxRecDepth 100000 in
theorem zy_X9_pass : zYok (zY 89) := ⟨zt5 (List.mem_of_getElem? (i := 97) rfl), zt1 (List.mem_of_getElem? (i := 10) rfl), ⟨plainFor_of_name zpl_9.1, zpl_9.2.1, zpl_9.2.2, by decide +kernel, rfl⟩, ⟨zt5 (List.mem_of_getElem? (i := 95) rfl), zt5 (List.mem_of_getElem? (i := 96) rfl)⟩⟩
set_option maxRecDepth 100000 in
theorem zy_X9_receive : zYok (zY 90) := ⟨zt5 (List.mem_of_getElem? (i := 101) rfl), zt1 (List.mem_of_getElem? (i := 10) rfl), ⟨plainFor_of_name zpl_9.1, zpl_9.2.1, zpl_9.2.2, by decide +kernel, rfl⟩, ⟨zt5 (List.mem_of_getElem? (i := 100) rfl), zt0 (List.mem_of_getElem? (i := 50) rfl)⟩⟩
set_option maxRecDepth 100000 in
theorem zy_X10_init : zYok (zY 91) := ⟨zt1 (List.mem_of_getElem? (i := 34) rfl), zt1 (List.mem_of_getElem? (i := 2) rfl), ⟨plainFor_of_name zpl_10.1, zpl_10.2.1, zpl_10.2.2, by decide +kernel, rfl⟩, ⟨zt1 (List.mem_of_getElem? (i := 33) rfl), rfl⟩⟩
set_option maxRecDepth 100000 in
theorem zy_X10_letterOf : zYok (zY 92) := ⟨zt4 (List.mem_of_getElem? (i := 45) rfl), zt1 (List.mem_of_getElem? (i := 2) rfl), ⟨plainFor_of_name zpl_10.1, zpl_10.2.1, zpl_10.2.2, by decide +kernel, rfl⟩, zt4 (List.mem_of_getElem? (i := 44) rfl)⟩
set_option maxRecDepth 100000 in
theorem zy_X10_faultFound : zYok (zY 93) := ⟨zt3 (List.mem_of_getElem? (i := 137) rfl), zt1 (List.mem_of_getElem? (i := 2) rfl), ⟨plainFor_of_name zpl_10.1, zpl_10.2.1, zpl_10.2.2, by decide +kernel, rfl⟩, ⟨zt3 (List.mem_of_getElem? (i := 135) rfl), zt3 (List.mem_of_getElem? (i := 136) rfl)⟩⟩
set_option maxRecDepth 100000 in
theorem zy_X10_faultPlace : zYok (zY 94) := ⟨zt3 (List.mem_of_getElem? (i := 146) rfl), zt1 (List.mem_of_getElem? (i := 2) rfl), ⟨plainFor_of_name zpl_10.1, zpl_10.2.1, zpl_10.2.2, by decide +kernel, rfl⟩, ⟨zt3 (List.mem_of_getElem? (i := 144) rfl), zt3 (List.mem_of_getElem? (i := 145) rfl)⟩⟩
set_option maxRecDepth 100000 in
theorem zy_X10_start : zYok (zY 95) := ⟨zt3 (List.mem_of_getElem? (i := 66) rfl), zt1 (List.mem_of_getElem? (i := 2) rfl), ⟨plainFor_of_name zpl_10.1, zpl_10.2.1, zpl_10.2.2, by decide +kernel, rfl⟩, ⟨zt3 (List.mem_of_getElem? (i := 64) rfl), zt3 (List.mem_of_getElem? (i := 65) rfl)⟩⟩
set_option maxRecDepth 100000 in
theorem zy_X10_open : zYok (zY 96) := ⟨zt3 (List.mem_of_getElem? (i := 3) rfl), zt1 (List.mem_of_getElem? (i := 2) rfl), ⟨plainFor_of_name zpl_10.1, zpl_10.2.1, zpl_10.2.2, by decide +kernel, rfl⟩, ⟨zt3 (List.mem_of_getElem? (i := 1) rfl), zt3 (List.mem_of_getElem? (i := 2) rfl)⟩⟩
set_option maxRecDepth 100000 in
theorem zy_X10_advance : zYok (zY 97) := ⟨zt3 (List.mem_of_getElem? (i := 10) rfl), zt1 (List.mem_of_getElem? (i := 2) rfl), ⟨plainFor_of_name zpl_10.1, zpl_10.2.1, zpl_10.2.2, by decide +kernel, rfl⟩, ⟨zt3 (List.mem_of_getElem? (i := 8) rfl), zt3 (List.mem_of_getElem? (i := 9) rfl)⟩⟩
set_option maxRecDepth 100000 in
theorem zy_X10_kindOf : zYok (zY 98) := ⟨zt3 (List.mem_of_getElem? (i := 13) rfl), zt1 (List.mem_of_getElem? (i := 2) rfl), ⟨plainFor_of_name zpl_10.1, zpl_10.2.1, zpl_10.2.2, by decide +kernel, rfl⟩, zt3 (List.mem_of_getElem? (i := 12) rfl)⟩
set_option maxRecDepth 100000 in
theorem zy_X10_readWord : zYok (zY 99) := ⟨zt3 (List.mem_of_getElem? (i := 17) rfl), zt1 (List.mem_of_getElem? (i := 2) rfl), ⟨plainFor_of_name zpl_10.1, zpl_10.2.1, zpl_10.2.2, by decide +kernel, rfl⟩, ⟨zt3 (List.mem_of_getElem? (i := 16) rfl), zt0 (List.mem_of_getElem? (i := 2) rfl)⟩⟩
set_option maxRecDepth 100000 in
theorem zy_X10_readNumber : zYok (zY 100) := ⟨zt3 (List.mem_of_getElem? (i := 21) rfl), zt1 (List.mem_of_getElem? (i := 2) rfl), ⟨plainFor_of_name zpl_10.1, zpl_10.2.1, zpl_10.2.2, by decide +kernel, rfl⟩, ⟨zt3 (List.mem_of_getElem? (i := 20) rfl), zt0 (List.mem_of_getElem? (i := 3) rfl)⟩⟩
set_option maxRecDepth 100000 in
theorem zy_X10_atEnd : zYok (zY 101) := ⟨zt3 (List.mem_of_getElem? (i := 41) rfl), zt1 (List.mem_of_getElem? (i := 2) rfl), ⟨plainFor_of_name zpl_10.1, zpl_10.2.1, zpl_10.2.2, by decide +kernel, rfl⟩, ⟨zt3 (List.mem_of_getElem? (i := 39) rfl), zt3 (List.mem_of_getElem? (i := 40) rfl)⟩⟩
set_option maxRecDepth 100000 in
theorem zy_X10_atNumber : zYok (zY 102) := ⟨zt3 (List.mem_of_getElem? (i := 210) rfl), zt1 (List.mem_of_getElem? (i := 2) rfl), ⟨plainFor_of_name zpl_10.1, zpl_10.2.1, zpl_10.2.2, by decide +kernel, rfl⟩, ⟨zt3 (List.mem_of_getElem? (i := 208) rfl), zt3 (List.mem_of_getElem? (i := 209) rfl)⟩⟩
set_option maxRecDepth 100000 in
theorem zy_X10_atSign : zYok (zY 103) := ⟨zt3 (List.mem_of_getElem? (i := 133) rfl), zt1 (List.mem_of_getElem? (i := 2) rfl), ⟨plainFor_of_name zpl_10.1, zpl_10.2.1, zpl_10.2.2, by decide +kernel, rfl⟩, ⟨zt3 (List.mem_of_getElem? (i := 131) rfl), zt3 (List.mem_of_getElem? (i := 132) rfl)⟩⟩
set_option maxRecDepth 100000 in
theorem zy_X10_ownWord : zYok (zY 104) := ⟨zt3 (List.mem_of_getElem? (i := 49) rfl), zt1 (List.mem_of_getElem? (i := 2) rfl), ⟨plainFor_of_name zpl_10.1, zpl_10.2.1, zpl_10.2.2, by decide +kernel, rfl⟩, ⟨zt3 (List.mem_of_getElem? (i := 47) rfl), zt3 (List.mem_of_getElem? (i := 48) rfl)⟩⟩
set_option maxRecDepth 100000 in
theorem zy_X10_atWord : zYok (zY 105) := ⟨zt3 (List.mem_of_getElem? (i := 92) rfl), zt1 (List.mem_of_getElem? (i := 2) rfl), ⟨plainFor_of_name zpl_10.1, zpl_10.2.1, zpl_10.2.2, by decide +kernel, rfl⟩, ⟨zt3 (List.mem_of_getElem? (i := 90) rfl), zt3 (List.mem_of_getElem? (i := 91) rfl)⟩⟩
set_option maxRecDepth 100000 in
theorem zy_X10_fail : zYok (zY 106) := ⟨zt3 (List.mem_of_getElem? (i := 61) rfl), zt1 (List.mem_of_getElem? (i := 2) rfl), ⟨plainFor_of_name zpl_10.1, zpl_10.2.1, zpl_10.2.2, by decide +kernel, rfl⟩, ⟨zt3 (List.mem_of_getElem? (i := 59) rfl), zt3 (List.mem_of_getElem? (i := 60) rfl)⟩⟩
set_option maxRecDepth 100000 in
theorem zy_X10_failHere : zYok (zY 107) := ⟨zt3 (List.mem_of_getElem? (i := 57) rfl), zt1 (List.mem_of_getElem? (i := 2) rfl), ⟨plainFor_of_name zpl_10.1, zpl_10.2.1, zpl_10.2.2, by decide +kernel, rfl⟩, ⟨zt3 (List.mem_of_getElem? (i := 55) rfl), zt3 (List.mem_of_getElem? (i := 56) rfl)⟩⟩
set_option maxRecDepth 100000 in
theorem zy_X10_takeWord : zYok (zY 108) := ⟨zt3 (List.mem_of_getElem? (i := 88) rfl), zt1 (List.mem_of_getElem? (i := 2) rfl), ⟨plainFor_of_name zpl_10.1, zpl_10.2.1, zpl_10.2.2, by decide +kernel, rfl⟩, ⟨zt3 (List.mem_of_getElem? (i := 86) rfl), zt3 (List.mem_of_getElem? (i := 87) rfl)⟩⟩
set_option maxRecDepth 100000 in
theorem zy_X10_takeSign : zYok (zY 109) := ⟨zt3 (List.mem_of_getElem? (i := 129) rfl), zt1 (List.mem_of_getElem? (i := 2) rfl), ⟨plainFor_of_name zpl_10.1, zpl_10.2.1, zpl_10.2.2, by decide +kernel, rfl⟩, ⟨zt3 (List.mem_of_getElem? (i := 127) rfl), zt3 (List.mem_of_getElem? (i := 128) rfl)⟩⟩
set_option maxRecDepth 100000 in
theorem zy_X10_takeNumber : zYok (zY 110) := ⟨zt3 (List.mem_of_getElem? (i := 97) rfl), zt1 (List.mem_of_getElem? (i := 2) rfl), ⟨plainFor_of_name zpl_10.1, zpl_10.2.1, zpl_10.2.2, by decide +kernel, rfl⟩, ⟨zt3 (List.mem_of_getElem? (i := 95) rfl), zt3 (List.mem_of_getElem? (i := 96) rfl)⟩⟩
set_option maxRecDepth 100000 in
theorem zy_X10_takeName : zYok (zY 111) := ⟨zt3 (List.mem_of_getElem? (i := 70) rfl), zt1 (List.mem_of_getElem? (i := 2) rfl), ⟨plainFor_of_name zpl_10.1, zpl_10.2.1, zpl_10.2.2, by decide +kernel, rfl⟩, ⟨zt3 (List.mem_of_getElem? (i := 68) rfl), zt3 (List.mem_of_getElem? (i := 69) rfl)⟩⟩
set_option maxRecDepth 100000 in
theorem zy_X11_init : zYok (zY 112) := ⟨zt1 (List.mem_of_getElem? (i := 26) rfl), zt1 (List.mem_of_getElem? (i := 1) rfl), ⟨plainFor_of_name zpl_11.1, zpl_11.2.1, zpl_11.2.2, by decide +kernel, rfl⟩, ⟨zt1 (List.mem_of_getElem? (i := 25) rfl), rfl⟩⟩
set_option maxRecDepth 100000 in
theorem zy_X11_feed : zYok (zY 113) := ⟨zt2 (List.mem_of_getElem? (i := 223) rfl), zt1 (List.mem_of_getElem? (i := 1) rfl), ⟨plainFor_of_name zpl_11.1, zpl_11.2.1, zpl_11.2.2, by decide +kernel, rfl⟩, ⟨zt2 (List.mem_of_getElem? (i := 221) rfl), zt2 (List.mem_of_getElem? (i := 222) rfl)⟩⟩
set_option maxRecDepth 100000 in
theorem zy_X11_putOnTape : zYok (zY 114) := ⟨zt2 (List.mem_of_getElem? (i := 227) rfl), zt1 (List.mem_of_getElem? (i := 1) rfl), ⟨plainFor_of_name zpl_11.1, zpl_11.2.1, zpl_11.2.2, by decide +kernel, rfl⟩, ⟨zt2 (List.mem_of_getElem? (i := 226) rfl), zt0 (List.mem_of_getElem? (i := 0) rfl)⟩⟩
set_option maxRecDepth 100000 in
theorem zy_X11_end : zYok (zY 115) := ⟨zt2 (List.mem_of_getElem? (i := 231) rfl), zt1 (List.mem_of_getElem? (i := 1) rfl), ⟨plainFor_of_name zpl_11.1, zpl_11.2.1, zpl_11.2.2, by decide +kernel, rfl⟩, ⟨zt2 (List.mem_of_getElem? (i := 229) rfl), zt2 (List.mem_of_getElem? (i := 230) rfl)⟩⟩
set_option maxRecDepth 100000 in
theorem zy_X11_takeTape : zYok (zY 116) := ⟨zt2 (List.mem_of_getElem? (i := 239) rfl), zt1 (List.mem_of_getElem? (i := 1) rfl), ⟨plainFor_of_name zpl_11.1, zpl_11.2.1, zpl_11.2.2, by decide +kernel, rfl⟩, ⟨zt2 (List.mem_of_getElem? (i := 238) rfl), zt0 (List.mem_of_getElem? (i := 1) rfl)⟩⟩
set_option maxRecDepth 100000 in
theorem zy_X11_house : zYok (zY 117) := ⟨zt2 (List.mem_of_getElem? (i := 235) rfl), zt1 (List.mem_of_getElem? (i := 1) rfl), ⟨plainFor_of_name zpl_11.1, zpl_11.2.1, zpl_11.2.2, by decide +kernel, rfl⟩, ⟨zt2 (List.mem_of_getElem? (i := 233) rfl), zt2 (List.mem_of_getElem? (i := 234) rfl)⟩⟩
set_option maxRecDepth 100000 in
theorem zy_X11_rule : zYok (zY 118) := ⟨zt3 (List.mem_of_getElem? (i := 150) rfl), zt1 (List.mem_of_getElem? (i := 1) rfl), ⟨plainFor_of_name zpl_11.1, zpl_11.2.1, zpl_11.2.2, by decide +kernel, rfl⟩, ⟨zt3 (List.mem_of_getElem? (i := 148) rfl), zt3 (List.mem_of_getElem? (i := 149) rfl)⟩⟩
set_option maxRecDepth 100000 in
theorem zy_X11_keepFault : zYok (zY 119) := ⟨zt3 (List.mem_of_getElem? (i := 141) rfl), zt1 (List.mem_of_getElem? (i := 1) rfl), ⟨plainFor_of_name zpl_11.1, zpl_11.2.1, zpl_11.2.2, by decide +kernel, rfl⟩, ⟨zt3 (List.mem_of_getElem? (i := 140) rfl), zt0 (List.mem_of_getElem? (i := 12) rfl)⟩⟩
set_option maxRecDepth 100000 in
theorem zy_X11_fault : zYok (zY 120) := ⟨zt3 (List.mem_of_getElem? (i := 234) rfl), zt1 (List.mem_of_getElem? (i := 1) rfl), ⟨plainFor_of_name zpl_11.1, zpl_11.2.1, zpl_11.2.2, by decide +kernel, rfl⟩, ⟨zt3 (List.mem_of_getElem? (i := 232) rfl), zt3 (List.mem_of_getElem? (i := 233) rfl)⟩⟩
set_option maxRecDepth 100000 in
theorem zy_X11_has : zYok (zY 121) := ⟨zt3 (List.mem_of_getElem? (i := 238) rfl), zt1 (List.mem_of_getElem? (i := 1) rfl), ⟨plainFor_of_name zpl_11.1, zpl_11.2.1, zpl_11.2.2, by decide +kernel, rfl⟩, ⟨zt3 (List.mem_of_getElem? (i := 236) rfl), zt3 (List.mem_of_getElem? (i := 237) rfl)⟩⟩
set_option maxRecDepth 100000 in
theorem zy_X11_countBoxesOut : zYok (zY 122) := ⟨zt4 (List.mem_of_getElem? (i := 10) rfl), zt1 (List.mem_of_getElem? (i := 1) rfl), ⟨plainFor_of_name zpl_11.1, zpl_11.2.1, zpl_11.2.2, by decide +kernel, rfl⟩, ⟨zt4 (List.mem_of_getElem? (i := 9) rfl), zt0 (List.mem_of_getElem? (i := 25) rfl)⟩⟩
set_option maxRecDepth 100000 in
theorem zy_X11_letter : zYok (zY 123) := ⟨zt4 (List.mem_of_getElem? (i := 26) rfl), zt1 (List.mem_of_getElem? (i := 1) rfl), ⟨plainFor_of_name zpl_11.1, zpl_11.2.1, zpl_11.2.2, by decide +kernel, rfl⟩, ⟨zt4 (List.mem_of_getElem? (i := 24) rfl), zt4 (List.mem_of_getElem? (i := 25) rfl)⟩⟩
set_option maxRecDepth 100000 in
theorem zy_X11_nameOf : zYok (zY 124) := ⟨zt4 (List.mem_of_getElem? (i := 30) rfl), zt1 (List.mem_of_getElem? (i := 1) rfl), ⟨plainFor_of_name zpl_11.1, zpl_11.2.1, zpl_11.2.2, by decide +kernel, rfl⟩, ⟨zt4 (List.mem_of_getElem? (i := 29) rfl), zt0 (List.mem_of_getElem? (i := 26) rfl)⟩⟩
set_option maxRecDepth 100000 in
theorem zy_X11_isLast : zYok (zY 125) := ⟨zt4 (List.mem_of_getElem? (i := 34) rfl), zt1 (List.mem_of_getElem? (i := 1) rfl), ⟨plainFor_of_name zpl_11.1, zpl_11.2.1, zpl_11.2.2, by decide +kernel, rfl⟩, ⟨zt4 (List.mem_of_getElem? (i := 33) rfl), zt0 (List.mem_of_getElem? (i := 27) rfl)⟩⟩
set_option maxRecDepth 100000 in
theorem zy_X11_isSort : zYok (zY 126) := ⟨zt4 (List.mem_of_getElem? (i := 38) rfl), zt1 (List.mem_of_getElem? (i := 1) rfl), ⟨plainFor_of_name zpl_11.1, zpl_11.2.1, zpl_11.2.2, by decide +kernel, rfl⟩, ⟨zt4 (List.mem_of_getElem? (i := 37) rfl), zt0 (List.mem_of_getElem? (i := 28) rfl)⟩⟩
set_option maxRecDepth 100000 in
theorem zy_X11_isQuestion : zYok (zY 127) := ⟨zt4 (List.mem_of_getElem? (i := 42) rfl), zt1 (List.mem_of_getElem? (i := 1) rfl), ⟨plainFor_of_name zpl_11.1, zpl_11.2.1, zpl_11.2.2, by decide +kernel, rfl⟩, ⟨zt4 (List.mem_of_getElem? (i := 41) rfl), zt0 (List.mem_of_getElem? (i := 29) rfl)⟩⟩
set_option maxRecDepth 100000 in
theorem zy_X11_isPerson : zYok (zY 128) := ⟨zt4 (List.mem_of_getElem? (i := 66) rfl), zt1 (List.mem_of_getElem? (i := 1) rfl), ⟨plainFor_of_name zpl_11.1, zpl_11.2.1, zpl_11.2.2, by decide +kernel, rfl⟩, ⟨zt4 (List.mem_of_getElem? (i := 65) rfl), zt0 (List.mem_of_getElem? (i := 30) rfl)⟩⟩
set_option maxRecDepth 100000 in
theorem zy_X11_isSize : zYok (zY 129) := ⟨zt4 (List.mem_of_getElem? (i := 52) rfl), zt1 (List.mem_of_getElem? (i := 1) rfl), ⟨plainFor_of_name zpl_11.1, zpl_11.2.1, zpl_11.2.2, by decide +kernel, rfl⟩, zt4 (List.mem_of_getElem? (i := 51) rfl)⟩
set_option maxRecDepth 100000 in
theorem zy_X11_isFoot : zYok (zY 130) := ⟨zt4 (List.mem_of_getElem? (i := 69) rfl), zt1 (List.mem_of_getElem? (i := 1) rfl), ⟨plainFor_of_name zpl_11.1, zpl_11.2.1, zpl_11.2.2, by decide +kernel, rfl⟩, zt4 (List.mem_of_getElem? (i := 68) rfl)⟩
set_option maxRecDepth 100000 in
theorem zy_X11_isRun : zYok (zY 131) := ⟨zt4 (List.mem_of_getElem? (i := 76) rfl), zt1 (List.mem_of_getElem? (i := 1) rfl), ⟨plainFor_of_name zpl_11.1, zpl_11.2.1, zpl_11.2.2, by decide +kernel, rfl⟩, zt4 (List.mem_of_getElem? (i := 75) rfl)⟩
set_option maxRecDepth 100000 in
theorem zy_X11_isBox : zYok (zY 132) := ⟨zt4 (List.mem_of_getElem? (i := 92) rfl), zt1 (List.mem_of_getElem? (i := 1) rfl), ⟨plainFor_of_name zpl_11.1, zpl_11.2.1, zpl_11.2.2, by decide +kernel, rfl⟩, ⟨zt4 (List.mem_of_getElem? (i := 91) rfl), zt0 (List.mem_of_getElem? (i := 31) rfl)⟩⟩
set_option maxRecDepth 100000 in
theorem zy_X11_isOutcome : zYok (zY 133) := ⟨zt4 (List.mem_of_getElem? (i := 113) rfl), zt1 (List.mem_of_getElem? (i := 1) rfl), ⟨plainFor_of_name zpl_11.1, zpl_11.2.1, zpl_11.2.2, by decide +kernel, rfl⟩, zt4 (List.mem_of_getElem? (i := 112) rfl)⟩
set_option maxRecDepth 100000 in
theorem zy_X11_isInBox : zYok (zY 134) := ⟨zt4 (List.mem_of_getElem? (i := 109) rfl), zt1 (List.mem_of_getElem? (i := 1) rfl), ⟨plainFor_of_name zpl_11.1, zpl_11.2.1, zpl_11.2.2, by decide +kernel, rfl⟩, zt4 (List.mem_of_getElem? (i := 108) rfl)⟩
set_option maxRecDepth 100000 in
theorem zy_X11_sortOf : zYok (zY 135) := ⟨zt4 (List.mem_of_getElem? (i := 123) rfl), zt1 (List.mem_of_getElem? (i := 1) rfl), ⟨plainFor_of_name zpl_11.1, zpl_11.2.1, zpl_11.2.2, by decide +kernel, rfl⟩, ⟨zt4 (List.mem_of_getElem? (i := 122) rfl), zt0 (List.mem_of_getElem? (i := 33) rfl)⟩⟩
set_option maxRecDepth 100000 in
theorem zy_X11_person : zYok (zY 136) := ⟨zt4 (List.mem_of_getElem? (i := 49) rfl), zt1 (List.mem_of_getElem? (i := 1) rfl), ⟨plainFor_of_name zpl_11.1, zpl_11.2.1, zpl_11.2.2, by decide +kernel, rfl⟩, ⟨zt4 (List.mem_of_getElem? (i := 47) rfl), zt4 (List.mem_of_getElem? (i := 48) rfl)⟩⟩
set_option maxRecDepth 100000 in
theorem zy_X11_foot : zYok (zY 137) := ⟨zt4 (List.mem_of_getElem? (i := 62) rfl), zt1 (List.mem_of_getElem? (i := 1) rfl), ⟨plainFor_of_name zpl_11.1, zpl_11.2.1, zpl_11.2.2, by decide +kernel, rfl⟩, ⟨zt4 (List.mem_of_getElem? (i := 60) rfl), zt4 (List.mem_of_getElem? (i := 61) rfl)⟩⟩
set_option maxRecDepth 100000 in
theorem zy_X11_last : zYok (zY 138) := ⟨zt4 (List.mem_of_getElem? (i := 73) rfl), zt1 (List.mem_of_getElem? (i := 1) rfl), ⟨plainFor_of_name zpl_11.1, zpl_11.2.1, zpl_11.2.2, by decide +kernel, rfl⟩, ⟨zt4 (List.mem_of_getElem? (i := 71) rfl), zt4 (List.mem_of_getElem? (i := 72) rfl)⟩⟩
set_option maxRecDepth 100000 in
theorem zy_X11_who : zYok (zY 139) := ⟨zt4 (List.mem_of_getElem? (i := 80) rfl), zt1 (List.mem_of_getElem? (i := 1) rfl), ⟨plainFor_of_name zpl_11.1, zpl_11.2.1, zpl_11.2.2, by decide +kernel, rfl⟩, ⟨zt4 (List.mem_of_getElem? (i := 78) rfl), zt4 (List.mem_of_getElem? (i := 79) rfl)⟩⟩
set_option maxRecDepth 100000 in
theorem zy_X11_keeps : zYok (zY 140) := ⟨zt4 (List.mem_of_getElem? (i := 88) rfl), zt1 (List.mem_of_getElem? (i := 1) rfl), ⟨plainFor_of_name zpl_11.1, zpl_11.2.1, zpl_11.2.2, by decide +kernel, rfl⟩, ⟨zt4 (List.mem_of_getElem? (i := 86) rfl), zt4 (List.mem_of_getElem? (i := 87) rfl)⟩⟩
set_option maxRecDepth 100000 in
theorem zy_X11_weigh : zYok (zY 141) := ⟨zt4 (List.mem_of_getElem? (i := 119) rfl), zt1 (List.mem_of_getElem? (i := 1) rfl), ⟨plainFor_of_name zpl_11.1, zpl_11.2.1, zpl_11.2.2, by decide +kernel, rfl⟩, ⟨zt4 (List.mem_of_getElem? (i := 118) rfl), zt0 (List.mem_of_getElem? (i := 32) rfl)⟩⟩
set_option maxRecDepth 100000 in
theorem zy_X11_after : zYok (zY 142) := ⟨zt4 (List.mem_of_getElem? (i := 158) rfl), zt1 (List.mem_of_getElem? (i := 1) rfl), ⟨plainFor_of_name zpl_11.1, zpl_11.2.1, zpl_11.2.2, by decide +kernel, rfl⟩, ⟨zt4 (List.mem_of_getElem? (i := 156) rfl), zt4 (List.mem_of_getElem? (i := 157) rfl)⟩⟩
set_option maxRecDepth 100000 in
theorem zy_X11_teaches : zYok (zY 143) := ⟨zt4 (List.mem_of_getElem? (i := 170) rfl), zt1 (List.mem_of_getElem? (i := 1) rfl), ⟨plainFor_of_name zpl_11.1, zpl_11.2.1, zpl_11.2.2, by decide +kernel, rfl⟩, ⟨zt4 (List.mem_of_getElem? (i := 168) rfl), zt4 (List.mem_of_getElem? (i := 169) rfl)⟩⟩
set_option maxRecDepth 100000 in
theorem zy_X11_mean : zYok (zY 144) := ⟨zt4 (List.mem_of_getElem? (i := 174) rfl), zt1 (List.mem_of_getElem? (i := 1) rfl), ⟨plainFor_of_name zpl_11.1, zpl_11.2.1, zpl_11.2.2, by decide +kernel, rfl⟩, ⟨zt4 (List.mem_of_getElem? (i := 172) rfl), zt4 (List.mem_of_getElem? (i := 173) rfl)⟩⟩
set_option maxRecDepth 100000 in
theorem zy_X11_plainMean : zYok (zY 145) := ⟨zt4 (List.mem_of_getElem? (i := 179) rfl), zt1 (List.mem_of_getElem? (i := 1) rfl), ⟨plainFor_of_name zpl_11.1, zpl_11.2.1, zpl_11.2.2, by decide +kernel, rfl⟩, ⟨zt4 (List.mem_of_getElem? (i := 178) rfl), zt0 (List.mem_of_getElem? (i := 36) rfl)⟩⟩
set_option maxRecDepth 100000 in
theorem zy_X11_layOut : zYok (zY 146) := ⟨zt4 (List.mem_of_getElem? (i := 183) rfl), zt1 (List.mem_of_getElem? (i := 1) rfl), ⟨plainFor_of_name zpl_11.1, zpl_11.2.1, zpl_11.2.2, by decide +kernel, rfl⟩, ⟨zt4 (List.mem_of_getElem? (i := 182) rfl), zt0 (List.mem_of_getElem? (i := 37) rfl)⟩⟩
set_option maxRecDepth 100000 in
theorem zy_X11_meanOf : zYok (zY 147) := ⟨zt4 (List.mem_of_getElem? (i := 191) rfl), zt1 (List.mem_of_getElem? (i := 1) rfl), ⟨plainFor_of_name zpl_11.1, zpl_11.2.1, zpl_11.2.2, by decide +kernel, rfl⟩, ⟨zt4 (List.mem_of_getElem? (i := 190) rfl), zt0 (List.mem_of_getElem? (i := 38) rfl)⟩⟩
set_option maxRecDepth 100000 in
theorem zy_X11_orderedMean : zYok (zY 148) := ⟨zt4 (List.mem_of_getElem? (i := 216) rfl), zt1 (List.mem_of_getElem? (i := 1) rfl), ⟨plainFor_of_name zpl_11.1, zpl_11.2.1, zpl_11.2.2, by decide +kernel, rfl⟩, ⟨zt4 (List.mem_of_getElem? (i := 215) rfl), zt0 (List.mem_of_getElem? (i := 39) rfl)⟩⟩
set_option maxRecDepth 100000 in
theorem zy_X11_best : zYok (zY 149) := ⟨zt4 (List.mem_of_getElem? (i := 222) rfl), zt1 (List.mem_of_getElem? (i := 1) rfl), ⟨plainFor_of_name zpl_11.1, zpl_11.2.1, zpl_11.2.2, by decide +kernel, rfl⟩, ⟨zt4 (List.mem_of_getElem? (i := 220) rfl), zt4 (List.mem_of_getElem? (i := 221) rfl)⟩⟩
set_option maxRecDepth 100000 in
theorem zy_X11_bestBits : zYok (zY 150) := ⟨zt4 (List.mem_of_getElem? (i := 230) rfl), zt1 (List.mem_of_getElem? (i := 1) rfl), ⟨plainFor_of_name zpl_11.1, zpl_11.2.1, zpl_11.2.2, by decide +kernel, rfl⟩, ⟨zt4 (List.mem_of_getElem? (i := 229) rfl), zt0 (List.mem_of_getElem? (i := 41) rfl)⟩⟩
set_option maxRecDepth 100000 in
theorem zy_X11_bestMean : zYok (zY 151) := ⟨zt4 (List.mem_of_getElem? (i := 226) rfl), zt1 (List.mem_of_getElem? (i := 1) rfl), ⟨plainFor_of_name zpl_11.1, zpl_11.2.1, zpl_11.2.2, by decide +kernel, rfl⟩, ⟨zt4 (List.mem_of_getElem? (i := 225) rfl), zt0 (List.mem_of_getElem? (i := 40) rfl)⟩⟩
set_option maxRecDepth 100000 in
theorem zy_X11_box : zYok (zY 152) := ⟨zt5 (List.mem_of_getElem? (i := 3) rfl), zt1 (List.mem_of_getElem? (i := 1) rfl), ⟨plainFor_of_name zpl_11.1, zpl_11.2.1, zpl_11.2.2, by decide +kernel, rfl⟩, ⟨zt5 (List.mem_of_getElem? (i := 1) rfl), zt5 (List.mem_of_getElem? (i := 2) rfl)⟩⟩
set_option maxRecDepth 100000 in
theorem zy_X11_tellFacts : zYok (zY 153) := ⟨zt5 (List.mem_of_getElem? (i := 8) rfl), zt1 (List.mem_of_getElem? (i := 1) rfl), ⟨plainFor_of_name zpl_11.1, zpl_11.2.1, zpl_11.2.2, by decide +kernel, rfl⟩, ⟨zt5 (List.mem_of_getElem? (i := 7) rfl), zt0 (List.mem_of_getElem? (i := 42) rfl)⟩⟩
set_option maxRecDepth 100000 in
theorem zy_X11_way : zYok (zY 154) := ⟨zt5 (List.mem_of_getElem? (i := 44) rfl), zt1 (List.mem_of_getElem? (i := 1) rfl), ⟨plainFor_of_name zpl_11.1, zpl_11.2.1, zpl_11.2.2, by decide +kernel, rfl⟩, ⟨zt5 (List.mem_of_getElem? (i := 42) rfl), zt5 (List.mem_of_getElem? (i := 43) rfl)⟩⟩
set_option maxRecDepth 100000 in
theorem zy_X11_bitsOfWay : zYok (zY 155) := ⟨zt5 (List.mem_of_getElem? (i := 48) rfl), zt1 (List.mem_of_getElem? (i := 1) rfl), ⟨plainFor_of_name zpl_11.1, zpl_11.2.1, zpl_11.2.2, by decide +kernel, rfl⟩, ⟨zt5 (List.mem_of_getElem? (i := 47) rfl), zt0 (List.mem_of_getElem? (i := 45) rfl)⟩⟩
set_option maxRecDepth 100000 in
theorem zy_X11_send : zYok (zY 156) := ⟨zt5 (List.mem_of_getElem? (i := 54) rfl), zt1 (List.mem_of_getElem? (i := 1) rfl), ⟨plainFor_of_name zpl_11.1, zpl_11.2.1, zpl_11.2.2, by decide +kernel, rfl⟩, ⟨zt5 (List.mem_of_getElem? (i := 52) rfl), zt5 (List.mem_of_getElem? (i := 53) rfl)⟩⟩
set_option maxRecDepth 100000 in
theorem zy_X11_canSendNow : zYok (zY 157) := ⟨zt5 (List.mem_of_getElem? (i := 58) rfl), zt1 (List.mem_of_getElem? (i := 1) rfl), ⟨plainFor_of_name zpl_11.1, zpl_11.2.1, zpl_11.2.2, by decide +kernel, rfl⟩, ⟨zt5 (List.mem_of_getElem? (i := 57) rfl), zt0 (List.mem_of_getElem? (i := 46) rfl)⟩⟩
set_option maxRecDepth 100000 in
theorem zy_X11_sendNow : zYok (zY 158) := ⟨zt5 (List.mem_of_getElem? (i := 62) rfl), zt1 (List.mem_of_getElem? (i := 1) rfl), ⟨plainFor_of_name zpl_11.1, zpl_11.2.1, zpl_11.2.2, by decide +kernel, rfl⟩, ⟨zt5 (List.mem_of_getElem? (i := 61) rfl), zt0 (List.mem_of_getElem? (i := 47) rfl)⟩⟩
set_option maxRecDepth 100000 in
theorem zy_X11_back : zYok (zY 159) := ⟨zt5 (List.mem_of_getElem? (i := 70) rfl), zt1 (List.mem_of_getElem? (i := 1) rfl), ⟨plainFor_of_name zpl_11.1, zpl_11.2.1, zpl_11.2.2, by decide +kernel, rfl⟩, ⟨zt5 (List.mem_of_getElem? (i := 68) rfl), zt5 (List.mem_of_getElem? (i := 69) rfl)⟩⟩
set_option maxRecDepth 100000 in
theorem zy_X11_learnFromBox : zYok (zY 160) := ⟨zt5 (List.mem_of_getElem? (i := 74) rfl), zt1 (List.mem_of_getElem? (i := 1) rfl), ⟨plainFor_of_name zpl_11.1, zpl_11.2.1, zpl_11.2.2, by decide +kernel, rfl⟩, ⟨zt5 (List.mem_of_getElem? (i := 73) rfl), zt0 (List.mem_of_getElem? (i := 48) rfl)⟩⟩
set_option maxRecDepth 100000 in
theorem zy_X11_takeBack : zYok (zY 161) := ⟨zt5 (List.mem_of_getElem? (i := 78) rfl), zt1 (List.mem_of_getElem? (i := 1) rfl), ⟨plainFor_of_name zpl_11.1, zpl_11.2.1, zpl_11.2.2, by decide +kernel, rfl⟩, ⟨zt5 (List.mem_of_getElem? (i := 77) rfl), zt0 (List.mem_of_getElem? (i := 49) rfl)⟩⟩
set_option maxRecDepth 100000 in
theorem zy_X11_days : zYok (zY 162) := ⟨zt5 (List.mem_of_getElem? (i := 93) rfl), zt1 (List.mem_of_getElem? (i := 1) rfl), ⟨plainFor_of_name zpl_11.1, zpl_11.2.1, zpl_11.2.2, by decide +kernel, rfl⟩, ⟨zt5 (List.mem_of_getElem? (i := 91) rfl), zt5 (List.mem_of_getElem? (i := 92) rfl)⟩⟩
set_option maxRecDepth 100000 in
theorem zy_X11_stock : zYok (zY 163) := ⟨zt5 (List.mem_of_getElem? (i := 105) rfl), zt1 (List.mem_of_getElem? (i := 1) rfl), ⟨plainFor_of_name zpl_11.1, zpl_11.2.1, zpl_11.2.2, by decide +kernel, rfl⟩, ⟨zt5 (List.mem_of_getElem? (i := 103) rfl), zt5 (List.mem_of_getElem? (i := 104) rfl)⟩⟩
set_option maxRecDepth 100000 in
theorem zy_X11_earned : zYok (zY 164) := ⟨zt5 (List.mem_of_getElem? (i := 110) rfl), zt1 (List.mem_of_getElem? (i := 1) rfl), ⟨plainFor_of_name zpl_11.1, zpl_11.2.1, zpl_11.2.2, by decide +kernel, rfl⟩, ⟨zt5 (List.mem_of_getElem? (i := 108) rfl), zt5 (List.mem_of_getElem? (i := 109) rfl)⟩⟩
set_option maxRecDepth 100000 in
theorem zy_X11_answer : zYok (zY 165) := ⟨zt5 (List.mem_of_getElem? (i := 114) rfl), zt1 (List.mem_of_getElem? (i := 1) rfl), ⟨plainFor_of_name zpl_11.1, zpl_11.2.1, zpl_11.2.2, by decide +kernel, rfl⟩, ⟨zt5 (List.mem_of_getElem? (i := 112) rfl), zt5 (List.mem_of_getElem? (i := 113) rfl)⟩⟩
set_option maxRecDepth 100000 in
theorem zy_X11_worth : zYok (zY 166) := ⟨zt5 (List.mem_of_getElem? (i := 122) rfl), zt1 (List.mem_of_getElem? (i := 1) rfl), ⟨plainFor_of_name zpl_11.1, zpl_11.2.1, zpl_11.2.2, by decide +kernel, rfl⟩, ⟨zt5 (List.mem_of_getElem? (i := 120) rfl), zt5 (List.mem_of_getElem? (i := 121) rfl)⟩⟩
set_option maxRecDepth 100000 in
theorem zy_X11_worthBeside : zYok (zY 167) := ⟨zt5 (List.mem_of_getElem? (i := 126) rfl), zt1 (List.mem_of_getElem? (i := 1) rfl), ⟨plainFor_of_name zpl_11.1, zpl_11.2.1, zpl_11.2.2, by decide +kernel, rfl⟩, ⟨zt5 (List.mem_of_getElem? (i := 125) rfl), zt0 (List.mem_of_getElem? (i := 51) rfl)⟩⟩
set_option maxRecDepth 100000 in
theorem zy_X11_question : zYok (zY 168) := ⟨zt5 (List.mem_of_getElem? (i := 131) rfl), zt1 (List.mem_of_getElem? (i := 1) rfl), ⟨plainFor_of_name zpl_11.1, zpl_11.2.1, zpl_11.2.2, by decide +kernel, rfl⟩, ⟨zt5 (List.mem_of_getElem? (i := 129) rfl), zt5 (List.mem_of_getElem? (i := 130) rfl)⟩⟩
set_option maxRecDepth 100000 in
theorem zy_X11_fee : zYok (zY 169) := ⟨zt5 (List.mem_of_getElem? (i := 135) rfl), zt1 (List.mem_of_getElem? (i := 1) rfl), ⟨plainFor_of_name zpl_11.1, zpl_11.2.1, zpl_11.2.2, by decide +kernel, rfl⟩, ⟨zt5 (List.mem_of_getElem? (i := 133) rfl), zt5 (List.mem_of_getElem? (i := 134) rfl)⟩⟩
set_option maxRecDepth 100000 in
theorem zy_X11_step : zYok (zY 170) := ⟨zt5 (List.mem_of_getElem? (i := 139) rfl), zt1 (List.mem_of_getElem? (i := 1) rfl), ⟨plainFor_of_name zpl_11.1, zpl_11.2.1, zpl_11.2.2, by decide +kernel, rfl⟩, ⟨zt5 (List.mem_of_getElem? (i := 137) rfl), zt5 (List.mem_of_getElem? (i := 138) rfl)⟩⟩
set_option maxRecDepth 100000 in
theorem zy_X11_print : zYok (zY 171) := ⟨zt5 (List.mem_of_getElem? (i := 143) rfl), zt1 (List.mem_of_getElem? (i := 1) rfl), ⟨plainFor_of_name zpl_11.1, zpl_11.2.1, zpl_11.2.2, by decide +kernel, rfl⟩, ⟨zt5 (List.mem_of_getElem? (i := 141) rfl), zt5 (List.mem_of_getElem? (i := 142) rfl)⟩⟩
set_option maxRecDepth 100000 in
theorem zy_X11_alike : zYok (zY 172) := ⟨zt5 (List.mem_of_getElem? (i := 151) rfl), zt1 (List.mem_of_getElem? (i := 1) rfl), ⟨plainFor_of_name zpl_11.1, zpl_11.2.1, zpl_11.2.2, by decide +kernel, rfl⟩, ⟨zt5 (List.mem_of_getElem? (i := 149) rfl), zt5 (List.mem_of_getElem? (i := 150) rfl)⟩⟩
set_option maxRecDepth 100000 in
theorem zy_X11_strangers : zYok (zY 173) := ⟨zt5 (List.mem_of_getElem? (i := 163) rfl), zt1 (List.mem_of_getElem? (i := 1) rfl), ⟨plainFor_of_name zpl_11.1, zpl_11.2.1, zpl_11.2.2, by decide +kernel, rfl⟩, ⟨zt5 (List.mem_of_getElem? (i := 161) rfl), zt5 (List.mem_of_getElem? (i := 162) rfl)⟩⟩
set_option maxRecDepth 100000 in
theorem zy_X11_hold : zYok (zY 174) := ⟨zt5 (List.mem_of_getElem? (i := 172) rfl), zt1 (List.mem_of_getElem? (i := 1) rfl), ⟨plainFor_of_name zpl_11.1, zpl_11.2.1, zpl_11.2.2, by decide +kernel, rfl⟩, ⟨zt5 (List.mem_of_getElem? (i := 170) rfl), zt5 (List.mem_of_getElem? (i := 171) rfl)⟩⟩
set_option maxRecDepth 100000 in
theorem zy_X11_year : zYok (zY 175) := ⟨zt5 (List.mem_of_getElem? (i := 177) rfl), zt1 (List.mem_of_getElem? (i := 1) rfl), ⟨plainFor_of_name zpl_11.1, zpl_11.2.1, zpl_11.2.2, by decide +kernel, rfl⟩, ⟨zt5 (List.mem_of_getElem? (i := 175) rfl), zt5 (List.mem_of_getElem? (i := 176) rfl)⟩⟩
set_option maxRecDepth 100000 in
theorem zy_X11_draw : zYok (zY 176) := ⟨zt5 (List.mem_of_getElem? (i := 186) rfl), zt1 (List.mem_of_getElem? (i := 1) rfl), ⟨plainFor_of_name zpl_11.1, zpl_11.2.1, zpl_11.2.2, by decide +kernel, rfl⟩, ⟨zt5 (List.mem_of_getElem? (i := 184) rfl), zt5 (List.mem_of_getElem? (i := 185) rfl)⟩⟩
set_option maxRecDepth 100000 in
theorem zy_X11_drawOfCertain : zYok (zY 177) := ⟨zt5 (List.mem_of_getElem? (i := 194) rfl), zt1 (List.mem_of_getElem? (i := 1) rfl), ⟨plainFor_of_name zpl_11.1, zpl_11.2.1, zpl_11.2.2, by decide +kernel, rfl⟩, ⟨zt5 (List.mem_of_getElem? (i := 193) rfl), zt0 (List.mem_of_getElem? (i := 54) rfl)⟩⟩
set_option maxRecDepth 100000 in
theorem zy_X11_drawFrom : zYok (zY 178) := ⟨zt5 (List.mem_of_getElem? (i := 190) rfl), zt1 (List.mem_of_getElem? (i := 1) rfl), ⟨plainFor_of_name zpl_11.1, zpl_11.2.1, zpl_11.2.2, by decide +kernel, rfl⟩, ⟨zt5 (List.mem_of_getElem? (i := 189) rfl), zt0 (List.mem_of_getElem? (i := 53) rfl)⟩⟩
set_option maxRecDepth 100000 in
theorem zy_X11_truth : zYok (zY 179) := ⟨zt5 (List.mem_of_getElem? (i := 203) rfl), zt1 (List.mem_of_getElem? (i := 1) rfl), ⟨plainFor_of_name zpl_11.1, zpl_11.2.1, zpl_11.2.2, by decide +kernel, rfl⟩, ⟨zt5 (List.mem_of_getElem? (i := 201) rfl), zt5 (List.mem_of_getElem? (i := 202) rfl)⟩⟩
set_option maxRecDepth 100000 in
theorem zy_X11_trial : zYok (zY 180) := ⟨zt5 (List.mem_of_getElem? (i := 207) rfl), zt1 (List.mem_of_getElem? (i := 1) rfl), ⟨plainFor_of_name zpl_11.1, zpl_11.2.1, zpl_11.2.2, by decide +kernel, rfl⟩, ⟨zt5 (List.mem_of_getElem? (i := 205) rfl), zt5 (List.mem_of_getElem? (i := 206) rfl)⟩⟩
set_option maxRecDepth 100000 in
theorem zy_X11_hasTruth : zYok (zY 181) := ⟨zt5 (List.mem_of_getElem? (i := 211) rfl), zt1 (List.mem_of_getElem? (i := 1) rfl), ⟨plainFor_of_name zpl_11.1, zpl_11.2.1, zpl_11.2.2, by decide +kernel, rfl⟩, ⟨zt5 (List.mem_of_getElem? (i := 210) rfl), zt0 (List.mem_of_getElem? (i := 55) rfl)⟩⟩
set_option maxRecDepth 100000 in
theorem zy_X11_drawOutcome : zYok (zY 182) := ⟨zt5 (List.mem_of_getElem? (i := 215) rfl), zt1 (List.mem_of_getElem? (i := 1) rfl), ⟨plainFor_of_name zpl_11.1, zpl_11.2.1, zpl_11.2.2, by decide +kernel, rfl⟩, ⟨zt5 (List.mem_of_getElem? (i := 214) rfl), zt0 (List.mem_of_getElem? (i := 56) rfl)⟩⟩
set_option maxRecDepth 100000 in
theorem zy_X11_image : zYok (zY 183) := ⟨zt5 (List.mem_of_getElem? (i := 222) rfl), zt1 (List.mem_of_getElem? (i := 1) rfl), ⟨plainFor_of_name zpl_11.1, zpl_11.2.1, zpl_11.2.2, by decide +kernel, rfl⟩, ⟨zt5 (List.mem_of_getElem? (i := 220) rfl), zt5 (List.mem_of_getElem? (i := 221) rfl)⟩⟩
set_option maxRecDepth 100000 in
theorem zy_X11_octet : zYok (zY 184) := ⟨zt6 (List.mem_of_getElem? (i := 1) rfl), zt1 (List.mem_of_getElem? (i := 1) rfl), ⟨plainFor_of_name zpl_11.1, zpl_11.2.1, zpl_11.2.2, by decide +kernel, rfl⟩, ⟨zt5 (List.mem_of_getElem? (i := 239) rfl), zt6 (List.mem_of_getElem? (i := 0) rfl)⟩⟩
set_option maxRecDepth 100000 in
theorem zy_X11_on : zYok (zY 185) := ⟨zt6 (List.mem_of_getElem? (i := 9) rfl), zt1 (List.mem_of_getElem? (i := 1) rfl), ⟨plainFor_of_name zpl_11.1, zpl_11.2.1, zpl_11.2.2, by decide +kernel, rfl⟩, ⟨zt6 (List.mem_of_getElem? (i := 7) rfl), zt6 (List.mem_of_getElem? (i := 8) rfl)⟩⟩
set_option maxRecDepth 100000 in
theorem zy_X11_bringBoxesHome : zYok (zY 186) := ⟨zt6 (List.mem_of_getElem? (i := 29) rfl), zt1 (List.mem_of_getElem? (i := 1) rfl), ⟨plainFor_of_name zpl_11.1, zpl_11.2.1, zpl_11.2.2, by decide +kernel, rfl⟩, ⟨zt6 (List.mem_of_getElem? (i := 28) rfl), zt0 (List.mem_of_getElem? (i := 59) rfl)⟩⟩
set_option maxRecDepth 100000 in
theorem zy_X12_init : zYok (zY 187) := ⟨zt6 (List.mem_of_getElem? (i := 45) rfl), zt1 (List.mem_of_getElem? (i := 17) rfl), ⟨plainFor_of_name zpl_12.1, zpl_12.2.1, zpl_12.2.2, by decide +kernel, rfl⟩, ⟨zt6 (List.mem_of_getElem? (i := 44) rfl), rfl⟩⟩
set_option maxRecDepth 100000 in
theorem zy_X12_isIn : zYok (zY 188) := ⟨zt7 (List.mem_of_getElem? (i := 182) rfl), zt1 (List.mem_of_getElem? (i := 17) rfl), ⟨plainFor_of_name zpl_12.1, zpl_12.2.1, zpl_12.2.2, by decide +kernel, rfl⟩, zt7 (List.mem_of_getElem? (i := 181) rfl)⟩
set_option maxRecDepth 100000 in
theorem zy_X12_feed : zYok (zY 189) := ⟨zt7 (List.mem_of_getElem? (i := 107) rfl), zt1 (List.mem_of_getElem? (i := 17) rfl), ⟨plainFor_of_name zpl_12.1, zpl_12.2.1, zpl_12.2.2, by decide +kernel, rfl⟩, ⟨zt7 (List.mem_of_getElem? (i := 105) rfl), zt7 (List.mem_of_getElem? (i := 106) rfl)⟩⟩
set_option maxRecDepth 100000 in
theorem zy_X12_end : zYok (zY 190) := ⟨zt7 (List.mem_of_getElem? (i := 111) rfl), zt1 (List.mem_of_getElem? (i := 17) rfl), ⟨plainFor_of_name zpl_12.1, zpl_12.2.1, zpl_12.2.2, by decide +kernel, rfl⟩, ⟨zt7 (List.mem_of_getElem? (i := 109) rfl), zt7 (List.mem_of_getElem? (i := 110) rfl)⟩⟩
set_option maxRecDepth 100000 in
theorem zy_X12_fail : zYok (zY 191) := ⟨zt7 (List.mem_of_getElem? (i := 131) rfl), zt1 (List.mem_of_getElem? (i := 17) rfl), ⟨plainFor_of_name zpl_12.1, zpl_12.2.1, zpl_12.2.2, by decide +kernel, rfl⟩, ⟨zt7 (List.mem_of_getElem? (i := 130) rfl), zt0 (List.mem_of_getElem? (i := 63) rfl)⟩⟩
set_option maxRecDepth 100000 in
theorem zy_X12_isLetter : zYok (zY 192) := ⟨zt7 (List.mem_of_getElem? (i := 142) rfl), zt1 (List.mem_of_getElem? (i := 17) rfl), ⟨plainFor_of_name zpl_12.1, zpl_12.2.1, zpl_12.2.2, by decide +kernel, rfl⟩, zt7 (List.mem_of_getElem? (i := 141) rfl)⟩
set_option maxRecDepth 100000 in
theorem zy_X12_isDigit : zYok (zY 193) := ⟨zt7 (List.mem_of_getElem? (i := 179) rfl), zt1 (List.mem_of_getElem? (i := 17) rfl), ⟨plainFor_of_name zpl_12.1, zpl_12.2.1, zpl_12.2.2, by decide +kernel, rfl⟩, zt7 (List.mem_of_getElem? (i := 178) rfl)⟩
set_option maxRecDepth 100000 in
theorem zy_X12_look : zYok (zY 194) := ⟨zt7 (List.mem_of_getElem? (i := 123) rfl), zt1 (List.mem_of_getElem? (i := 17) rfl), ⟨plainFor_of_name zpl_12.1, zpl_12.2.1, zpl_12.2.2, by decide +kernel, rfl⟩, ⟨zt7 (List.mem_of_getElem? (i := 122) rfl), zt0 (List.mem_of_getElem? (i := 61) rfl)⟩⟩
set_option maxRecDepth 100000 in
theorem zy_X12_isHere : zYok (zY 195) := ⟨zt7 (List.mem_of_getElem? (i := 139) rfl), zt1 (List.mem_of_getElem? (i := 17) rfl), ⟨plainFor_of_name zpl_12.1, zpl_12.2.1, zpl_12.2.2, by decide +kernel, rfl⟩, ⟨zt7 (List.mem_of_getElem? (i := 138) rfl), zt0 (List.mem_of_getElem? (i := 65) rfl)⟩⟩
set_option maxRecDepth 100000 in
theorem zy_X12_takes : zYok (zY 196) := ⟨zt7 (List.mem_of_getElem? (i := 135) rfl), zt1 (List.mem_of_getElem? (i := 17) rfl), ⟨plainFor_of_name zpl_12.1, zpl_12.2.1, zpl_12.2.2, by decide +kernel, rfl⟩, ⟨zt7 (List.mem_of_getElem? (i := 134) rfl), zt0 (List.mem_of_getElem? (i := 64) rfl)⟩⟩
set_option maxRecDepth 100000 in
theorem zy_X12_asks : zYok (zY 197) := ⟨zt7 (List.mem_of_getElem? (i := 172) rfl), zt1 (List.mem_of_getElem? (i := 17) rfl), ⟨plainFor_of_name zpl_12.1, zpl_12.2.1, zpl_12.2.2, by decide +kernel, rfl⟩, ⟨zt7 (List.mem_of_getElem? (i := 171) rfl), zt0 (List.mem_of_getElem? (i := 72) rfl)⟩⟩
set_option maxRecDepth 100000 in
theorem zy_X12_takesSign : zYok (zY 198) := ⟨zt7 (List.mem_of_getElem? (i := 210) rfl), zt1 (List.mem_of_getElem? (i := 17) rfl), ⟨plainFor_of_name zpl_12.1, zpl_12.2.1, zpl_12.2.2, by decide +kernel, rfl⟩, ⟨zt7 (List.mem_of_getElem? (i := 209) rfl), zt0 (List.mem_of_getElem? (i := 80) rfl)⟩⟩
set_option maxRecDepth 100000 in
theorem zy_X12_asksSign : zYok (zY 199) := ⟨zt7 (List.mem_of_getElem? (i := 206) rfl), zt1 (List.mem_of_getElem? (i := 17) rfl), ⟨plainFor_of_name zpl_12.1, zpl_12.2.1, zpl_12.2.2, by decide +kernel, rfl⟩, ⟨zt7 (List.mem_of_getElem? (i := 205) rfl), zt0 (List.mem_of_getElem? (i := 79) rfl)⟩⟩
set_option maxRecDepth 100000 in
theorem zy_X12_number : zYok (zY 200) := ⟨zt7 (List.mem_of_getElem? (i := 176) rfl), zt1 (List.mem_of_getElem? (i := 17) rfl), ⟨plainFor_of_name zpl_12.1, zpl_12.2.1, zpl_12.2.2, by decide +kernel, rfl⟩, ⟨zt7 (List.mem_of_getElem? (i := 175) rfl), zt0 (List.mem_of_getElem? (i := 73) rfl)⟩⟩
set_option maxRecDepth 100000 in
theorem zy_X12_isOwnHere : zYok (zY 201) := ⟨zt7 (List.mem_of_getElem? (i := 162) rfl), zt1 (List.mem_of_getElem? (i := 17) rfl), ⟨plainFor_of_name zpl_12.1, zpl_12.2.1, zpl_12.2.2, by decide +kernel, rfl⟩, ⟨zt7 (List.mem_of_getElem? (i := 161) rfl), zt0 (List.mem_of_getElem? (i := 70) rfl)⟩⟩
set_option maxRecDepth 100000 in
theorem zy_X12_name : zYok (zY 202) := ⟨zt7 (List.mem_of_getElem? (i := 158) rfl), zt1 (List.mem_of_getElem? (i := 17) rfl), ⟨plainFor_of_name zpl_12.1, zpl_12.2.1, zpl_12.2.2, by decide +kernel, rfl⟩, ⟨zt7 (List.mem_of_getElem? (i := 157) rfl), zt0 (List.mem_of_getElem? (i := 69) rfl)⟩⟩
set_option maxRecDepth 100000 in
theorem zy_X12_begins : zYok (zY 203) := ⟨zt7 (List.mem_of_getElem? (i := 119) rfl), zt1 (List.mem_of_getElem? (i := 17) rfl), ⟨plainFor_of_name zpl_12.1, zpl_12.2.1, zpl_12.2.2, by decide +kernel, rfl⟩, ⟨zt7 (List.mem_of_getElem? (i := 118) rfl), zt0 (List.mem_of_getElem? (i := 60) rfl)⟩⟩
set_option maxRecDepth 100000 in
theorem zy_X12_nameOf : zYok (zY 204) := ⟨zt7 (List.mem_of_getElem? (i := 168) rfl), zt1 (List.mem_of_getElem? (i := 17) rfl), ⟨plainFor_of_name zpl_12.1, zpl_12.2.1, zpl_12.2.2, by decide +kernel, rfl⟩, ⟨zt7 (List.mem_of_getElem? (i := 167) rfl), zt0 (List.mem_of_getElem? (i := 71) rfl)⟩⟩
set_option maxRecDepth 100000 in
theorem zy_X12_newName : zYok (zY 205) := ⟨zt7 (List.mem_of_getElem? (i := 154) rfl), zt1 (List.mem_of_getElem? (i := 17) rfl), ⟨plainFor_of_name zpl_12.1, zpl_12.2.1, zpl_12.2.2, by decide +kernel, rfl⟩, ⟨zt7 (List.mem_of_getElem? (i := 153) rfl), zt0 (List.mem_of_getElem? (i := 68) rfl)⟩⟩
set_option maxRecDepth 100000 in
theorem zy_X12_isFull : zYok (zY 206) := ⟨zt7 (List.mem_of_getElem? (i := 150) rfl), zt1 (List.mem_of_getElem? (i := 17) rfl), ⟨plainFor_of_name zpl_12.1, zpl_12.2.1, zpl_12.2.2, by decide +kernel, rfl⟩, ⟨zt7 (List.mem_of_getElem? (i := 149) rfl), zt0 (List.mem_of_getElem? (i := 67) rfl)⟩⟩
set_option maxRecDepth 100000 in
theorem zy_X12_chances : zYok (zY 207) := ⟨zt7 (List.mem_of_getElem? (i := 186) rfl), zt1 (List.mem_of_getElem? (i := 17) rfl), ⟨plainFor_of_name zpl_12.1, zpl_12.2.1, zpl_12.2.2, by decide +kernel, rfl⟩, ⟨zt7 (List.mem_of_getElem? (i := 185) rfl), zt0 (List.mem_of_getElem? (i := 74) rfl)⟩⟩
set_option maxRecDepth 100000 in
theorem zy_X12_lastTold : zYok (zY 208) := ⟨zt7 (List.mem_of_getElem? (i := 146) rfl), zt1 (List.mem_of_getElem? (i := 17) rfl), ⟨plainFor_of_name zpl_12.1, zpl_12.2.1, zpl_12.2.2, by decide +kernel, rfl⟩, ⟨zt7 (List.mem_of_getElem? (i := 145) rfl), zt0 (List.mem_of_getElem? (i := 66) rfl)⟩⟩
set_option maxRecDepth 100000 in
theorem zy_X12_sortTold : zYok (zY 209) := ⟨zt7 (List.mem_of_getElem? (i := 190) rfl), zt1 (List.mem_of_getElem? (i := 17) rfl), ⟨plainFor_of_name zpl_12.1, zpl_12.2.1, zpl_12.2.2, by decide +kernel, rfl⟩, ⟨zt7 (List.mem_of_getElem? (i := 189) rfl), zt0 (List.mem_of_getElem? (i := 75) rfl)⟩⟩
set_option maxRecDepth 100000 in
theorem zy_X12_askTold : zYok (zY 210) := ⟨zt7 (List.mem_of_getElem? (i := 202) rfl), zt1 (List.mem_of_getElem? (i := 17) rfl), ⟨plainFor_of_name zpl_12.1, zpl_12.2.1, zpl_12.2.2, by decide +kernel, rfl⟩, ⟨zt7 (List.mem_of_getElem? (i := 201) rfl), zt0 (List.mem_of_getElem? (i := 78) rfl)⟩⟩
set_option maxRecDepth 100000 in
theorem zy_X12_keepsTold : zYok (zY 211) := ⟨zt7 (List.mem_of_getElem? (i := 194) rfl), zt1 (List.mem_of_getElem? (i := 17) rfl), ⟨plainFor_of_name zpl_12.1, zpl_12.2.1, zpl_12.2.2, by decide +kernel, rfl⟩, ⟨zt7 (List.mem_of_getElem? (i := 193) rfl), zt0 (List.mem_of_getElem? (i := 76) rfl)⟩⟩
set_option maxRecDepth 100000 in
theorem zy_X12_stockTold : zYok (zY 212) := ⟨zt7 (List.mem_of_getElem? (i := 198) rfl), zt1 (List.mem_of_getElem? (i := 17) rfl), ⟨plainFor_of_name zpl_12.1, zpl_12.2.1, zpl_12.2.2, by decide +kernel, rfl⟩, ⟨zt7 (List.mem_of_getElem? (i := 197) rfl), zt0 (List.mem_of_getElem? (i := 77) rfl)⟩⟩
set_option maxRecDepth 100000 in
theorem zy_X12_houseTold : zYok (zY 213) := ⟨zt7 (List.mem_of_getElem? (i := 127) rfl), zt1 (List.mem_of_getElem? (i := 17) rfl), ⟨plainFor_of_name zpl_12.1, zpl_12.2.1, zpl_12.2.2, by decide +kernel, rfl⟩, ⟨zt7 (List.mem_of_getElem? (i := 126) rfl), zt0 (List.mem_of_getElem? (i := 62) rfl)⟩⟩
set_option maxRecDepth 100000 in
theorem zy_X12_house : zYok (zY 214) := ⟨zt7 (List.mem_of_getElem? (i := 115) rfl), zt1 (List.mem_of_getElem? (i := 17) rfl), ⟨plainFor_of_name zpl_12.1, zpl_12.2.1, zpl_12.2.2, by decide +kernel, rfl⟩, ⟨zt7 (List.mem_of_getElem? (i := 113) rfl), zt7 (List.mem_of_getElem? (i := 114) rfl)⟩⟩
set_option maxRecDepth 100000 in
theorem zy_X12_stands : zYok (zY 215) := ⟨zt7 (List.mem_of_getElem? (i := 214) rfl), zt1 (List.mem_of_getElem? (i := 17) rfl), ⟨plainFor_of_name zpl_12.1, zpl_12.2.1, zpl_12.2.2, by decide +kernel, rfl⟩, ⟨zt7 (List.mem_of_getElem? (i := 213) rfl), zt0 (List.mem_of_getElem? (i := 81) rfl)⟩⟩
set_option maxRecDepth 100000 in
theorem zy_X12_code : zYok (zY 216) := ⟨zt8 (List.mem_of_getElem? (i := 7) rfl), zt1 (List.mem_of_getElem? (i := 17) rfl), ⟨plainFor_of_name zpl_12.1, zpl_12.2.1, zpl_12.2.2, by decide +kernel, rfl⟩, ⟨zt8 (List.mem_of_getElem? (i := 6) rfl), zt0 (List.mem_of_getElem? (i := 88) rfl)⟩⟩
set_option maxRecDepth 100000 in
theorem zy_X12_opens : zYok (zY 217) := ⟨zt7 (List.mem_of_getElem? (i := 239) rfl), zt1 (List.mem_of_getElem? (i := 17) rfl), ⟨plainFor_of_name zpl_12.1, zpl_12.2.1, zpl_12.2.2, by decide +kernel, rfl⟩, ⟨zt7 (List.mem_of_getElem? (i := 238) rfl), zt0 (List.mem_of_getElem? (i := 86) rfl)⟩⟩
set_option maxRecDepth 100000 in
theorem zy_X12_isOn : zYok (zY 218) := ⟨zt8 (List.mem_of_getElem? (i := 39) rfl), zt1 (List.mem_of_getElem? (i := 17) rfl), ⟨plainFor_of_name zpl_12.1, zpl_12.2.1, zpl_12.2.2, by decide +kernel, rfl⟩, ⟨zt8 (List.mem_of_getElem? (i := 38) rfl), zt0 (List.mem_of_getElem? (i := 96) rfl)⟩⟩
set_option maxRecDepth 100000 in
theorem zy_X12_drops : zYok (zY 219) := ⟨zt8 (List.mem_of_getElem? (i := 35) rfl), zt1 (List.mem_of_getElem? (i := 17) rfl), ⟨plainFor_of_name zpl_12.1, zpl_12.2.1, zpl_12.2.2, by decide +kernel, rfl⟩, ⟨zt8 (List.mem_of_getElem? (i := 34) rfl), zt0 (List.mem_of_getElem? (i := 95) rfl)⟩⟩
set_option maxRecDepth 100000 in
theorem zy_X12_isMark : zYok (zY 220) := ⟨zt8 (List.mem_of_getElem? (i := 27) rfl), zt1 (List.mem_of_getElem? (i := 17) rfl), ⟨plainFor_of_name zpl_12.1, zpl_12.2.1, zpl_12.2.2, by decide +kernel, rfl⟩, ⟨zt8 (List.mem_of_getElem? (i := 26) rfl), zt0 (List.mem_of_getElem? (i := 93) rfl)⟩⟩
set_option maxRecDepth 100000 in
theorem zy_X12_mark : zYok (zY 221) := ⟨zt8 (List.mem_of_getElem? (i := 23) rfl), zt1 (List.mem_of_getElem? (i := 17) rfl), ⟨plainFor_of_name zpl_12.1, zpl_12.2.1, zpl_12.2.2, by decide +kernel, rfl⟩, ⟨zt8 (List.mem_of_getElem? (i := 22) rfl), zt0 (List.mem_of_getElem? (i := 92) rfl)⟩⟩
set_option maxRecDepth 100000 in
theorem zy_X12_dropsToMark : zYok (zY 222) := ⟨zt8 (List.mem_of_getElem? (i := 31) rfl), zt1 (List.mem_of_getElem? (i := 17) rfl), ⟨plainFor_of_name zpl_12.1, zpl_12.2.1, zpl_12.2.2, by decide +kernel, rfl⟩, ⟨zt8 (List.mem_of_getElem? (i := 30) rfl), zt0 (List.mem_of_getElem? (i := 94) rfl)⟩⟩
set_option maxRecDepth 100000 in
theorem zy_X12_onePart : zYok (zY 223) := ⟨zt8 (List.mem_of_getElem? (i := 15) rfl), zt1 (List.mem_of_getElem? (i := 17) rfl), ⟨plainFor_of_name zpl_12.1, zpl_12.2.1, zpl_12.2.2, by decide +kernel, rfl⟩, ⟨zt8 (List.mem_of_getElem? (i := 14) rfl), zt0 (List.mem_of_getElem? (i := 90) rfl)⟩⟩
set_option maxRecDepth 100000 in
theorem zy_X12_goesOn : zYok (zY 224) := ⟨zt8 (List.mem_of_getElem? (i := 19) rfl), zt1 (List.mem_of_getElem? (i := 17) rfl), ⟨plainFor_of_name zpl_12.1, zpl_12.2.1, zpl_12.2.2, by decide +kernel, rfl⟩, ⟨zt8 (List.mem_of_getElem? (i := 18) rfl), zt0 (List.mem_of_getElem? (i := 91) rfl)⟩⟩
set_option maxRecDepth 100000 in
theorem zy_X12_sums : zYok (zY 225) := ⟨zt8 (List.mem_of_getElem? (i := 11) rfl), zt1 (List.mem_of_getElem? (i := 17) rfl), ⟨plainFor_of_name zpl_12.1, zpl_12.2.1, zpl_12.2.2, by decide +kernel, rfl⟩, ⟨zt8 (List.mem_of_getElem? (i := 10) rfl), zt0 (List.mem_of_getElem? (i := 89) rfl)⟩⟩
set_option maxRecDepth 100000 in
theorem zy_X12_fact : zYok (zY 226) := ⟨zt8 (List.mem_of_getElem? (i := 3) rfl), zt1 (List.mem_of_getElem? (i := 17) rfl), ⟨plainFor_of_name zpl_12.1, zpl_12.2.1, zpl_12.2.2, by decide +kernel, rfl⟩, ⟨zt8 (List.mem_of_getElem? (i := 2) rfl), zt0 (List.mem_of_getElem? (i := 87) rfl)⟩⟩
set_option maxRecDepth 100000 in
theorem zy_X12_hasSquare : zYok (zY 227) := ⟨zt8 (List.mem_of_getElem? (i := 51) rfl), zt1 (List.mem_of_getElem? (i := 17) rfl), ⟨plainFor_of_name zpl_12.1, zpl_12.2.1, zpl_12.2.2, by decide +kernel, rfl⟩, ⟨zt8 (List.mem_of_getElem? (i := 50) rfl), zt0 (List.mem_of_getElem? (i := 99) rfl)⟩⟩
set_option maxRecDepth 100000 in
theorem zy_X12_dropsNots : zYok (zY 228) := ⟨zt8 (List.mem_of_getElem? (i := 43) rfl), zt1 (List.mem_of_getElem? (i := 17) rfl), ⟨plainFor_of_name zpl_12.1, zpl_12.2.1, zpl_12.2.2, by decide +kernel, rfl⟩, ⟨zt8 (List.mem_of_getElem? (i := 42) rfl), zt0 (List.mem_of_getElem? (i := 97) rfl)⟩⟩
set_option maxRecDepth 100000 in
theorem zy_X12_test : zYok (zY 229) := ⟨zt7 (List.mem_of_getElem? (i := 235) rfl), zt1 (List.mem_of_getElem? (i := 17) rfl), ⟨plainFor_of_name zpl_12.1, zpl_12.2.1, zpl_12.2.2, by decide +kernel, rfl⟩, ⟨zt7 (List.mem_of_getElem? (i := 234) rfl), zt0 (List.mem_of_getElem? (i := 85) rfl)⟩⟩
set_option maxRecDepth 100000 in
theorem zy_X12_goesOnTest : zYok (zY 230) := ⟨zt8 (List.mem_of_getElem? (i := 47) rfl), zt1 (List.mem_of_getElem? (i := 17) rfl), ⟨plainFor_of_name zpl_12.1, zpl_12.2.1, zpl_12.2.2, by decide +kernel, rfl⟩, ⟨zt8 (List.mem_of_getElem? (i := 46) rfl), zt0 (List.mem_of_getElem? (i := 98) rfl)⟩⟩
set_option maxRecDepth 100000 in
theorem zy_X12_sizeTold : zYok (zY 231) := ⟨zt7 (List.mem_of_getElem? (i := 231) rfl), zt1 (List.mem_of_getElem? (i := 17) rfl), ⟨plainFor_of_name zpl_12.1, zpl_12.2.1, zpl_12.2.2, by decide +kernel, rfl⟩, ⟨zt7 (List.mem_of_getElem? (i := 230) rfl), zt0 (List.mem_of_getElem? (i := 84) rfl)⟩⟩
set_option maxRecDepth 100000 in
theorem zy_X12_sizesTold : zYok (zY 232) := ⟨zt7 (List.mem_of_getElem? (i := 227) rfl), zt1 (List.mem_of_getElem? (i := 17) rfl), ⟨plainFor_of_name zpl_12.1, zpl_12.2.1, zpl_12.2.2, by decide +kernel, rfl⟩, ⟨zt7 (List.mem_of_getElem? (i := 226) rfl), zt0 (List.mem_of_getElem? (i := 83) rfl)⟩⟩
set_option maxRecDepth 100000 in
theorem zy_X12_sendTold : zYok (zY 233) := ⟨zt7 (List.mem_of_getElem? (i := 223) rfl), zt1 (List.mem_of_getElem? (i := 17) rfl), ⟨plainFor_of_name zpl_12.1, zpl_12.2.1, zpl_12.2.2, by decide +kernel, rfl⟩, ⟨zt7 (List.mem_of_getElem? (i := 222) rfl), zt0 (List.mem_of_getElem? (i := 82) rfl)⟩⟩
set_option maxRecDepth 100000 in
theorem zy_X12_rule : zYok (zY 234) := ⟨zt7 (List.mem_of_getElem? (i := 218) rfl), zt1 (List.mem_of_getElem? (i := 17) rfl), ⟨plainFor_of_name zpl_12.1, zpl_12.2.1, zpl_12.2.2, by decide +kernel, rfl⟩, ⟨zt7 (List.mem_of_getElem? (i := 216) rfl), zt7 (List.mem_of_getElem? (i := 217) rfl)⟩⟩
set_option maxRecDepth 100000 in
theorem zy_X12_fault : zYok (zY 235) := ⟨zt8 (List.mem_of_getElem? (i := 55) rfl), zt1 (List.mem_of_getElem? (i := 17) rfl), ⟨plainFor_of_name zpl_12.1, zpl_12.2.1, zpl_12.2.2, by decide +kernel, rfl⟩, ⟨zt8 (List.mem_of_getElem? (i := 53) rfl), zt8 (List.mem_of_getElem? (i := 54) rfl)⟩⟩
set_option maxRecDepth 100000 in
theorem zy_X12_lasts : zYok (zY 236) := ⟨zt8 (List.mem_of_getElem? (i := 99) rfl), zt1 (List.mem_of_getElem? (i := 17) rfl), ⟨plainFor_of_name zpl_12.1, zpl_12.2.1, zpl_12.2.2, by decide +kernel, rfl⟩, ⟨zt8 (List.mem_of_getElem? (i := 98) rfl), zt0 (List.mem_of_getElem? (i := 104) rfl)⟩⟩
set_option maxRecDepth 100000 in
theorem zy_X12_has : zYok (zY 237) := ⟨zt8 (List.mem_of_getElem? (i := 59) rfl), zt1 (List.mem_of_getElem? (i := 17) rfl), ⟨plainFor_of_name zpl_12.1, zpl_12.2.1, zpl_12.2.2, by decide +kernel, rfl⟩, ⟨zt8 (List.mem_of_getElem? (i := 57) rfl), zt8 (List.mem_of_getElem? (i := 58) rfl)⟩⟩
set_option maxRecDepth 100000 in
theorem zy_X12_letter : zYok (zY 238) := ⟨zt8 (List.mem_of_getElem? (i := 63) rfl), zt1 (List.mem_of_getElem? (i := 17) rfl), ⟨plainFor_of_name zpl_12.1, zpl_12.2.1, zpl_12.2.2, by decide +kernel, rfl⟩, ⟨zt8 (List.mem_of_getElem? (i := 61) rfl), zt8 (List.mem_of_getElem? (i := 62) rfl)⟩⟩
set_option maxRecDepth 100000 in
theorem zy_X12_isPerson : zYok (zY 239) := ⟨zt8 (List.mem_of_getElem? (i := 86) rfl), zt1 (List.mem_of_getElem? (i := 17) rfl), ⟨plainFor_of_name zpl_12.1, zpl_12.2.1, zpl_12.2.2, by decide +kernel, rfl⟩, ⟨zt8 (List.mem_of_getElem? (i := 85) rfl), zt0 (List.mem_of_getElem? (i := 102) rfl)⟩⟩
set_option maxRecDepth 100000 in
theorem zy_X12_isLast : zYok (zY 240) := ⟨zt8 (List.mem_of_getElem? (i := 95) rfl), zt1 (List.mem_of_getElem? (i := 17) rfl), ⟨plainFor_of_name zpl_12.1, zpl_12.2.1, zpl_12.2.2, by decide +kernel, rfl⟩, ⟨zt8 (List.mem_of_getElem? (i := 94) rfl), zt0 (List.mem_of_getElem? (i := 103) rfl)⟩⟩
set_option maxRecDepth 100000 in
theorem zy_X12_comes : zYok (zY 241) := ⟨zt8 (List.mem_of_getElem? (i := 78) rfl), zt1 (List.mem_of_getElem? (i := 17) rfl), ⟨plainFor_of_name zpl_12.1, zpl_12.2.1, zpl_12.2.2, by decide +kernel, rfl⟩, ⟨zt8 (List.mem_of_getElem? (i := 77) rfl), zt0 (List.mem_of_getElem? (i := 101) rfl)⟩⟩
set_option maxRecDepth 100000 in
theorem zy_X12_isAsked : zYok (zY 242) := ⟨zt8 (List.mem_of_getElem? (i := 72) rfl), zt1 (List.mem_of_getElem? (i := 17) rfl), ⟨plainFor_of_name zpl_12.1, zpl_12.2.1, zpl_12.2.2, by decide +kernel, rfl⟩, ⟨zt8 (List.mem_of_getElem? (i := 71) rfl), zt0 (List.mem_of_getElem? (i := 100) rfl)⟩⟩
set_option maxRecDepth 100000 in
theorem zy_X12_person : zYok (zY 243) := ⟨zt8 (List.mem_of_getElem? (i := 68) rfl), zt1 (List.mem_of_getElem? (i := 17) rfl), ⟨plainFor_of_name zpl_12.1, zpl_12.2.1, zpl_12.2.2, by decide +kernel, rfl⟩, ⟨zt8 (List.mem_of_getElem? (i := 66) rfl), zt8 (List.mem_of_getElem? (i := 67) rfl)⟩⟩
set_option maxRecDepth 100000 in
theorem zy_X12_foot : zYok (zY 244) := ⟨zt8 (List.mem_of_getElem? (i := 82) rfl), zt1 (List.mem_of_getElem? (i := 17) rfl), ⟨plainFor_of_name zpl_12.1, zpl_12.2.1, zpl_12.2.2, by decide +kernel, rfl⟩, ⟨zt8 (List.mem_of_getElem? (i := 80) rfl), zt8 (List.mem_of_getElem? (i := 81) rfl)⟩⟩
set_option maxRecDepth 100000 in
theorem zy_X12_last : zYok (zY 245) := ⟨zt8 (List.mem_of_getElem? (i := 91) rfl), zt1 (List.mem_of_getElem? (i := 17) rfl), ⟨plainFor_of_name zpl_12.1, zpl_12.2.1, zpl_12.2.2, by decide +kernel, rfl⟩, ⟨zt8 (List.mem_of_getElem? (i := 89) rfl), zt8 (List.mem_of_getElem? (i := 90) rfl)⟩⟩
set_option maxRecDepth 100000 in
theorem zy_X12_pairsKept : zYok (zY 246) := ⟨zt8 (List.mem_of_getElem? (i := 108) rfl), zt1 (List.mem_of_getElem? (i := 17) rfl), ⟨plainFor_of_name zpl_12.1, zpl_12.2.1, zpl_12.2.2, by decide +kernel, rfl⟩, ⟨zt8 (List.mem_of_getElem? (i := 107) rfl), zt0 (List.mem_of_getElem? (i := 105) rfl)⟩⟩
set_option maxRecDepth 100000 in
theorem zy_X12_who : zYok (zY 247) := ⟨zt8 (List.mem_of_getElem? (i := 104) rfl), zt1 (List.mem_of_getElem? (i := 17) rfl), ⟨plainFor_of_name zpl_12.1, zpl_12.2.1, zpl_12.2.2, by decide +kernel, rfl⟩, ⟨zt8 (List.mem_of_getElem? (i := 102) rfl), zt8 (List.mem_of_getElem? (i := 103) rfl)⟩⟩
set_option maxRecDepth 100000 in
theorem zy_X12_pairsOf : zYok (zY 248) := ⟨zt8 (List.mem_of_getElem? (i := 120) rfl), zt1 (List.mem_of_getElem? (i := 17) rfl), ⟨plainFor_of_name zpl_12.1, zpl_12.2.1, zpl_12.2.2, by decide +kernel, rfl⟩, zt8 (List.mem_of_getElem? (i := 119) rfl)⟩
set_option maxRecDepth 100000 in
theorem zy_X12_isBox : zYok (zY 249) := ⟨zt8 (List.mem_of_getElem? (i := 116) rfl), zt1 (List.mem_of_getElem? (i := 17) rfl), ⟨plainFor_of_name zpl_12.1, zpl_12.2.1, zpl_12.2.2, by decide +kernel, rfl⟩, ⟨zt8 (List.mem_of_getElem? (i := 115) rfl), zt0 (List.mem_of_getElem? (i := 106) rfl)⟩⟩
set_option maxRecDepth 100000 in
theorem zy_X12_pleases : zYok (zY 250) := ⟨zt8 (List.mem_of_getElem? (i := 137) rfl), zt1 (List.mem_of_getElem? (i := 17) rfl), ⟨plainFor_of_name zpl_12.1, zpl_12.2.1, zpl_12.2.2, by decide +kernel, rfl⟩, ⟨zt8 (List.mem_of_getElem? (i := 136) rfl), zt0 (List.mem_of_getElem? (i := 110) rfl)⟩⟩
set_option maxRecDepth 100000 in
theorem zy_X12_bestPair : zYok (zY 251) := ⟨zt8 (List.mem_of_getElem? (i := 133) rfl), zt1 (List.mem_of_getElem? (i := 17) rfl), ⟨plainFor_of_name zpl_12.1, zpl_12.2.1, zpl_12.2.2, by decide +kernel, rfl⟩, ⟨zt8 (List.mem_of_getElem? (i := 132) rfl), zt0 (List.mem_of_getElem? (i := 109) rfl)⟩⟩
set_option maxRecDepth 100000 in
theorem zy_X12_likely : zYok (zY 252) := ⟨zt8 (List.mem_of_getElem? (i := 129) rfl), zt1 (List.mem_of_getElem? (i := 17) rfl), ⟨plainFor_of_name zpl_12.1, zpl_12.2.1, zpl_12.2.2, by decide +kernel, rfl⟩, ⟨zt8 (List.mem_of_getElem? (i := 128) rfl), zt0 (List.mem_of_getElem? (i := 108) rfl)⟩⟩
set_option maxRecDepth 100000 in
theorem zy_X12_weights : zYok (zY 253) := ⟨zt8 (List.mem_of_getElem? (i := 125) rfl), zt1 (List.mem_of_getElem? (i := 17) rfl), ⟨plainFor_of_name zpl_12.1, zpl_12.2.1, zpl_12.2.2, by decide +kernel, rfl⟩, ⟨zt8 (List.mem_of_getElem? (i := 124) rfl), zt0 (List.mem_of_getElem? (i := 107) rfl)⟩⟩
set_option maxRecDepth 100000 in
theorem zy_X12_keeps : zYok (zY 254) := ⟨zt8 (List.mem_of_getElem? (i := 112) rfl), zt1 (List.mem_of_getElem? (i := 17) rfl), ⟨plainFor_of_name zpl_12.1, zpl_12.2.1, zpl_12.2.2, by decide +kernel, rfl⟩, ⟨zt8 (List.mem_of_getElem? (i := 110) rfl), zt8 (List.mem_of_getElem? (i := 111) rfl)⟩⟩
set_option maxRecDepth 100000 in
theorem zy_X12_money : zYok (zY 255) := ⟨zt8 (List.mem_of_getElem? (i := 151) rfl), zt1 (List.mem_of_getElem? (i := 17) rfl), ⟨plainFor_of_name zpl_12.1, zpl_12.2.1, zpl_12.2.2, by decide +kernel, rfl⟩, ⟨zt8 (List.mem_of_getElem? (i := 150) rfl), zt0 (List.mem_of_getElem? (i := 112) rfl)⟩⟩
set_option maxRecDepth 100000 in
theorem zy_X12_floorOf : zYok (zY 256) := ⟨zt8 (List.mem_of_getElem? (i := 155) rfl), zt1 (List.mem_of_getElem? (i := 17) rfl), ⟨plainFor_of_name zpl_12.1, zpl_12.2.1, zpl_12.2.2, by decide +kernel, rfl⟩, zt8 (List.mem_of_getElem? (i := 154) rfl)⟩
set_option maxRecDepth 100000 in
theorem zy_X12_meanOf : zYok (zY 257) := ⟨zt8 (List.mem_of_getElem? (i := 146) rfl), zt1 (List.mem_of_getElem? (i := 17) rfl), ⟨plainFor_of_name zpl_12.1, zpl_12.2.1, zpl_12.2.2, by decide +kernel, rfl⟩, ⟨zt8 (List.mem_of_getElem? (i := 145) rfl), zt0 (List.mem_of_getElem? (i := 111) rfl)⟩⟩
set_option maxRecDepth 100000 in
theorem zy_X12_ordered : zYok (zY 258) := ⟨zt8 (List.mem_of_getElem? (i := 159) rfl), zt1 (List.mem_of_getElem? (i := 17) rfl), ⟨plainFor_of_name zpl_12.1, zpl_12.2.1, zpl_12.2.2, by decide +kernel, rfl⟩, ⟨zt8 (List.mem_of_getElem? (i := 158) rfl), zt0 (List.mem_of_getElem? (i := 113) rfl)⟩⟩
set_option maxRecDepth 100000 in
theorem zy_X12_mean : zYok (zY 259) := ⟨zt8 (List.mem_of_getElem? (i := 141) rfl), zt1 (List.mem_of_getElem? (i := 17) rfl), ⟨plainFor_of_name zpl_12.1, zpl_12.2.1, zpl_12.2.2, by decide +kernel, rfl⟩, ⟨zt8 (List.mem_of_getElem? (i := 139) rfl), zt8 (List.mem_of_getElem? (i := 140) rfl)⟩⟩
set_option maxRecDepth 100000 in
theorem zy_X12_stockAt : zYok (zY 260) := ⟨zt8 (List.mem_of_getElem? (i := 175) rfl), zt1 (List.mem_of_getElem? (i := 17) rfl), ⟨plainFor_of_name zpl_12.1, zpl_12.2.1, zpl_12.2.2, by decide +kernel, rfl⟩, ⟨zt8 (List.mem_of_getElem? (i := 174) rfl), zt0 (List.mem_of_getElem? (i := 116) rfl)⟩⟩
set_option maxRecDepth 100000 in
theorem zy_X12_isInStock : zYok (zY 261) := ⟨zt8 (List.mem_of_getElem? (i := 171) rfl), zt1 (List.mem_of_getElem? (i := 17) rfl), ⟨plainFor_of_name zpl_12.1, zpl_12.2.1, zpl_12.2.2, by decide +kernel, rfl⟩, ⟨zt8 (List.mem_of_getElem? (i := 170) rfl), zt0 (List.mem_of_getElem? (i := 115) rfl)⟩⟩
set_option maxRecDepth 100000 in
theorem zy_X12_bestBox : zYok (zY 262) := ⟨zt8 (List.mem_of_getElem? (i := 167) rfl), zt1 (List.mem_of_getElem? (i := 17) rfl), ⟨plainFor_of_name zpl_12.1, zpl_12.2.1, zpl_12.2.2, by decide +kernel, rfl⟩, ⟨zt8 (List.mem_of_getElem? (i := 166) rfl), zt0 (List.mem_of_getElem? (i := 114) rfl)⟩⟩
set_option maxRecDepth 100000 in
theorem zy_X12_best : zYok (zY 263) := ⟨zt8 (List.mem_of_getElem? (i := 163) rfl), zt1 (List.mem_of_getElem? (i := 17) rfl), ⟨plainFor_of_name zpl_12.1, zpl_12.2.1, zpl_12.2.2, by decide +kernel, rfl⟩, ⟨zt8 (List.mem_of_getElem? (i := 161) rfl), zt8 (List.mem_of_getElem? (i := 162) rfl)⟩⟩
set_option maxRecDepth 100000 in
theorem zy_X12_clip : zYok (zY 264) := ⟨zt8 (List.mem_of_getElem? (i := 209) rfl), zt1 (List.mem_of_getElem? (i := 17) rfl), ⟨plainFor_of_name zpl_12.1, zpl_12.2.1, zpl_12.2.2, by decide +kernel, rfl⟩, zt8 (List.mem_of_getElem? (i := 208) rfl)⟩
set_option maxRecDepth 100000 in
theorem zy_X12_floor : zYok (zY 265) := ⟨zt8 (List.mem_of_getElem? (i := 214) rfl), zt1 (List.mem_of_getElem? (i := 17) rfl), ⟨plainFor_of_name zpl_12.1, zpl_12.2.1, zpl_12.2.2, by decide +kernel, rfl⟩, zt8 (List.mem_of_getElem? (i := 213) rfl)⟩
set_option maxRecDepth 100000 in
theorem zy_X12_puts : zYok (zY 266) := ⟨zt8 (List.mem_of_getElem? (i := 195) rfl), zt1 (List.mem_of_getElem? (i := 17) rfl), ⟨plainFor_of_name zpl_12.1, zpl_12.2.1, zpl_12.2.2, by decide +kernel, rfl⟩, ⟨zt8 (List.mem_of_getElem? (i := 194) rfl), zt0 (List.mem_of_getElem? (i := 120) rfl)⟩⟩
set_option maxRecDepth 100000 in
theorem zy_X12_joins : zYok (zY 267) := ⟨zt8 (List.mem_of_getElem? (i := 206) rfl), zt1 (List.mem_of_getElem? (i := 17) rfl), ⟨plainFor_of_name zpl_12.1, zpl_12.2.1, zpl_12.2.2, by decide +kernel, rfl⟩, ⟨zt8 (List.mem_of_getElem? (i := 205) rfl), zt0 (List.mem_of_getElem? (i := 122) rfl)⟩⟩
set_option maxRecDepth 100000 in
theorem zy_X12_holds : zYok (zY 268) := ⟨zt8 (List.mem_of_getElem? (i := 191) rfl), zt1 (List.mem_of_getElem? (i := 17) rfl), ⟨plainFor_of_name zpl_12.1, zpl_12.2.1, zpl_12.2.2, by decide +kernel, rfl⟩, ⟨zt8 (List.mem_of_getElem? (i := 190) rfl), zt0 (List.mem_of_getElem? (i := 119) rfl)⟩⟩
set_option maxRecDepth 100000 in
theorem zy_X12_asked : zYok (zY 269) := ⟨zt8 (List.mem_of_getElem? (i := 202) rfl), zt1 (List.mem_of_getElem? (i := 17) rfl), ⟨plainFor_of_name zpl_12.1, zpl_12.2.1, zpl_12.2.2, by decide +kernel, rfl⟩, ⟨zt8 (List.mem_of_getElem? (i := 201) rfl), zt0 (List.mem_of_getElem? (i := 121) rfl)⟩⟩
set_option maxRecDepth 100000 in
theorem zy_X12_cut : zYok (zY 270) := ⟨zt8 (List.mem_of_getElem? (i := 218) rfl), zt1 (List.mem_of_getElem? (i := 17) rfl), ⟨plainFor_of_name zpl_12.1, zpl_12.2.1, zpl_12.2.2, by decide +kernel, rfl⟩, ⟨zt8 (List.mem_of_getElem? (i := 217) rfl), zt0 (List.mem_of_getElem? (i := 123) rfl)⟩⟩
set_option maxRecDepth 100000 in
theorem zy_X12_ruled : zYok (zY 271) := ⟨zt8 (List.mem_of_getElem? (i := 187) rfl), zt1 (List.mem_of_getElem? (i := 17) rfl), ⟨plainFor_of_name zpl_12.1, zpl_12.2.1, zpl_12.2.2, by decide +kernel, rfl⟩, ⟨zt8 (List.mem_of_getElem? (i := 186) rfl), zt0 (List.mem_of_getElem? (i := 118) rfl)⟩⟩
set_option maxRecDepth 100000 in
theorem zy_X12_isRuled : zYok (zY 272) := ⟨zt8 (List.mem_of_getElem? (i := 183) rfl), zt1 (List.mem_of_getElem? (i := 17) rfl), ⟨plainFor_of_name zpl_12.1, zpl_12.2.1, zpl_12.2.2, by decide +kernel, rfl⟩, ⟨zt8 (List.mem_of_getElem? (i := 182) rfl), zt0 (List.mem_of_getElem? (i := 117) rfl)⟩⟩
set_option maxRecDepth 100000 in
theorem zy_X12_box : zYok (zY 273) := ⟨zt8 (List.mem_of_getElem? (i := 179) rfl), zt1 (List.mem_of_getElem? (i := 17) rfl), ⟨plainFor_of_name zpl_12.1, zpl_12.2.1, zpl_12.2.2, by decide +kernel, rfl⟩, ⟨zt8 (List.mem_of_getElem? (i := 177) rfl), zt8 (List.mem_of_getElem? (i := 178) rfl)⟩⟩
set_option maxRecDepth 100000 in
theorem zy_X12_wayBox : zYok (zY 274) := ⟨zt8 (List.mem_of_getElem? (i := 230) rfl), zt1 (List.mem_of_getElem? (i := 17) rfl), ⟨plainFor_of_name zpl_12.1, zpl_12.2.1, zpl_12.2.2, by decide +kernel, rfl⟩, ⟨zt8 (List.mem_of_getElem? (i := 229) rfl), zt0 (List.mem_of_getElem? (i := 125) rfl)⟩⟩
set_option maxRecDepth 100000 in
theorem zy_X12_isWay : zYok (zY 275) := ⟨zt8 (List.mem_of_getElem? (i := 226) rfl), zt1 (List.mem_of_getElem? (i := 17) rfl), ⟨plainFor_of_name zpl_12.1, zpl_12.2.1, zpl_12.2.2, by decide +kernel, rfl⟩, ⟨zt8 (List.mem_of_getElem? (i := 225) rfl), zt0 (List.mem_of_getElem? (i := 124) rfl)⟩⟩
set_option maxRecDepth 100000 in
theorem zy_X12_way : zYok (zY 276) := ⟨zt8 (List.mem_of_getElem? (i := 222) rfl), zt1 (List.mem_of_getElem? (i := 17) rfl), ⟨plainFor_of_name zpl_12.1, zpl_12.2.1, zpl_12.2.2, by decide +kernel, rfl⟩, ⟨zt8 (List.mem_of_getElem? (i := 220) rfl), zt8 (List.mem_of_getElem? (i := 221) rfl)⟩⟩
set_option maxRecDepth 100000 in
theorem zy_X12_sent : zYok (zY 277) := ⟨zt8 (List.mem_of_getElem? (i := 238) rfl), zt1 (List.mem_of_getElem? (i := 17) rfl), ⟨plainFor_of_name zpl_12.1, zpl_12.2.1, zpl_12.2.2, by decide +kernel, rfl⟩, ⟨zt8 (List.mem_of_getElem? (i := 237) rfl), zt0 (List.mem_of_getElem? (i := 126) rfl)⟩⟩
set_option maxRecDepth 100000 in
theorem zy_X12_send : zYok (zY 278) := ⟨zt8 (List.mem_of_getElem? (i := 234) rfl), zt1 (List.mem_of_getElem? (i := 17) rfl), ⟨plainFor_of_name zpl_12.1, zpl_12.2.1, zpl_12.2.2, by decide +kernel, rfl⟩, ⟨zt8 (List.mem_of_getElem? (i := 232) rfl), zt8 (List.mem_of_getElem? (i := 233) rfl)⟩⟩
set_option maxRecDepth 100000 in
theorem zy_X12_takes_ : zYok (zY 279) := ⟨zt9 (List.mem_of_getElem? (i := 16) rfl), zt1 (List.mem_of_getElem? (i := 17) rfl), ⟨plainFor_of_name zpl_12.1, zpl_12.2.1, zpl_12.2.2, by decide +kernel, rfl⟩, ⟨zt9 (List.mem_of_getElem? (i := 15) rfl), zt0 (List.mem_of_getElem? (i := 129) rfl)⟩⟩
set_option maxRecDepth 100000 in
theorem zy_X12_wouldLearn : zYok (zY 280) := ⟨zt9 (List.mem_of_getElem? (i := 11) rfl), zt1 (List.mem_of_getElem? (i := 17) rfl), ⟨plainFor_of_name zpl_12.1, zpl_12.2.1, zpl_12.2.2, by decide +kernel, rfl⟩, ⟨zt9 (List.mem_of_getElem? (i := 10) rfl), zt0 (List.mem_of_getElem? (i := 128) rfl)⟩⟩
set_option maxRecDepth 100000 in
theorem zy_X12_learns : zYok (zY 281) := ⟨zt9 (List.mem_of_getElem? (i := 32) rfl), zt1 (List.mem_of_getElem? (i := 17) rfl), ⟨plainFor_of_name zpl_12.1, zpl_12.2.1, zpl_12.2.2, by decide +kernel, rfl⟩, ⟨zt9 (List.mem_of_getElem? (i := 31) rfl), zt0 (List.mem_of_getElem? (i := 131) rfl)⟩⟩
set_option maxRecDepth 100000 in
theorem zy_X12_isTaught : zYok (zY 282) := ⟨zt9 (List.mem_of_getElem? (i := 7) rfl), zt1 (List.mem_of_getElem? (i := 17) rfl), ⟨plainFor_of_name zpl_12.1, zpl_12.2.1, zpl_12.2.2, by decide +kernel, rfl⟩, ⟨zt9 (List.mem_of_getElem? (i := 6) rfl), zt0 (List.mem_of_getElem? (i := 127) rfl)⟩⟩
set_option maxRecDepth 100000 in
theorem zy_X12_after : zYok (zY 283) := ⟨zt9 (List.mem_of_getElem? (i := 3) rfl), zt1 (List.mem_of_getElem? (i := 17) rfl), ⟨plainFor_of_name zpl_12.1, zpl_12.2.1, zpl_12.2.2, by decide +kernel, rfl⟩, ⟨zt9 (List.mem_of_getElem? (i := 1) rfl), zt9 (List.mem_of_getElem? (i := 2) rfl)⟩⟩
set_option maxRecDepth 100000 in
theorem zy_X12_teaches : zYok (zY 284) := ⟨zt9 (List.mem_of_getElem? (i := 20) rfl), zt1 (List.mem_of_getElem? (i := 17) rfl), ⟨plainFor_of_name zpl_12.1, zpl_12.2.1, zpl_12.2.2, by decide +kernel, rfl⟩, ⟨zt9 (List.mem_of_getElem? (i := 18) rfl), zt9 (List.mem_of_getElem? (i := 19) rfl)⟩⟩
set_option maxRecDepth 100000 in
theorem zy_X12_cameBack : zYok (zY 285) := ⟨zt9 (List.mem_of_getElem? (i := 28) rfl), zt1 (List.mem_of_getElem? (i := 17) rfl), ⟨plainFor_of_name zpl_12.1, zpl_12.2.1, zpl_12.2.2, by decide +kernel, rfl⟩, ⟨zt9 (List.mem_of_getElem? (i := 27) rfl), zt0 (List.mem_of_getElem? (i := 130) rfl)⟩⟩
set_option maxRecDepth 100000 in
theorem zy_X12_back : zYok (zY 286) := ⟨zt9 (List.mem_of_getElem? (i := 24) rfl), zt1 (List.mem_of_getElem? (i := 17) rfl), ⟨plainFor_of_name zpl_12.1, zpl_12.2.1, zpl_12.2.2, by decide +kernel, rfl⟩, ⟨zt9 (List.mem_of_getElem? (i := 22) rfl), zt9 (List.mem_of_getElem? (i := 23) rfl)⟩⟩
set_option maxRecDepth 100000 in
theorem zy_X12_days : zYok (zY 287) := ⟨zt9 (List.mem_of_getElem? (i := 36) rfl), zt1 (List.mem_of_getElem? (i := 17) rfl), ⟨plainFor_of_name zpl_12.1, zpl_12.2.1, zpl_12.2.2, by decide +kernel, rfl⟩, ⟨zt9 (List.mem_of_getElem? (i := 34) rfl), zt9 (List.mem_of_getElem? (i := 35) rfl)⟩⟩
set_option maxRecDepth 100000 in
theorem zy_X12_stock : zYok (zY 288) := ⟨zt9 (List.mem_of_getElem? (i := 40) rfl), zt1 (List.mem_of_getElem? (i := 17) rfl), ⟨plainFor_of_name zpl_12.1, zpl_12.2.1, zpl_12.2.2, by decide +kernel, rfl⟩, ⟨zt9 (List.mem_of_getElem? (i := 38) rfl), zt9 (List.mem_of_getElem? (i := 39) rfl)⟩⟩
set_option maxRecDepth 100000 in
theorem zy_X12_earned : zYok (zY 289) := ⟨zt9 (List.mem_of_getElem? (i := 44) rfl), zt1 (List.mem_of_getElem? (i := 17) rfl), ⟨plainFor_of_name zpl_12.1, zpl_12.2.1, zpl_12.2.2, by decide +kernel, rfl⟩, ⟨zt9 (List.mem_of_getElem? (i := 42) rfl), zt9 (List.mem_of_getElem? (i := 43) rfl)⟩⟩
set_option maxRecDepth 100000 in
theorem zy_X12_isQuestion : zYok (zY 290) := ⟨zt9 (List.mem_of_getElem? (i := 52) rfl), zt1 (List.mem_of_getElem? (i := 17) rfl), ⟨plainFor_of_name zpl_12.1, zpl_12.2.1, zpl_12.2.2, by decide +kernel, rfl⟩, ⟨zt9 (List.mem_of_getElem? (i := 51) rfl), zt0 (List.mem_of_getElem? (i := 132) rfl)⟩⟩
set_option maxRecDepth 100000 in
theorem zy_X12_chance : zYok (zY 291) := ⟨zt9 (List.mem_of_getElem? (i := 60) rfl), zt1 (List.mem_of_getElem? (i := 17) rfl), ⟨plainFor_of_name zpl_12.1, zpl_12.2.1, zpl_12.2.2, by decide +kernel, rfl⟩, ⟨zt9 (List.mem_of_getElem? (i := 59) rfl), zt0 (List.mem_of_getElem? (i := 134) rfl)⟩⟩
set_option maxRecDepth 100000 in
theorem zy_X12_allOf : zYok (zY 292) := ⟨zt9 (List.mem_of_getElem? (i := 56) rfl), zt1 (List.mem_of_getElem? (i := 17) rfl), ⟨plainFor_of_name zpl_12.1, zpl_12.2.1, zpl_12.2.2, by decide +kernel, rfl⟩, ⟨zt9 (List.mem_of_getElem? (i := 55) rfl), zt0 (List.mem_of_getElem? (i := 133) rfl)⟩⟩
set_option maxRecDepth 100000 in
theorem zy_X12_answered : zYok (zY 293) := ⟨zt9 (List.mem_of_getElem? (i := 64) rfl), zt1 (List.mem_of_getElem? (i := 17) rfl), ⟨plainFor_of_name zpl_12.1, zpl_12.2.1, zpl_12.2.2, by decide +kernel, rfl⟩, ⟨zt9 (List.mem_of_getElem? (i := 63) rfl), zt0 (List.mem_of_getElem? (i := 135) rfl)⟩⟩
set_option maxRecDepth 100000 in
theorem zy_X12_answer : zYok (zY 294) := ⟨zt9 (List.mem_of_getElem? (i := 48) rfl), zt1 (List.mem_of_getElem? (i := 17) rfl), ⟨plainFor_of_name zpl_12.1, zpl_12.2.1, zpl_12.2.2, by decide +kernel, rfl⟩, ⟨zt9 (List.mem_of_getElem? (i := 46) rfl), zt9 (List.mem_of_getElem? (i := 47) rfl)⟩⟩
set_option maxRecDepth 100000 in
theorem zy_X12_behind : zYok (zY 295) := ⟨zt9 (List.mem_of_getElem? (i := 72) rfl), zt1 (List.mem_of_getElem? (i := 17) rfl), ⟨plainFor_of_name zpl_12.1, zpl_12.2.1, zpl_12.2.2, by decide +kernel, rfl⟩, ⟨zt9 (List.mem_of_getElem? (i := 71) rfl), zt0 (List.mem_of_getElem? (i := 136) rfl)⟩⟩
set_option maxRecDepth 100000 in
theorem zy_X12_worth : zYok (zY 296) := ⟨zt9 (List.mem_of_getElem? (i := 68) rfl), zt1 (List.mem_of_getElem? (i := 17) rfl), ⟨plainFor_of_name zpl_12.1, zpl_12.2.1, zpl_12.2.2, by decide +kernel, rfl⟩, ⟨zt9 (List.mem_of_getElem? (i := 66) rfl), zt9 (List.mem_of_getElem? (i := 67) rfl)⟩⟩
set_option maxRecDepth 100000 in
theorem zy_X12_question : zYok (zY 297) := ⟨zt9 (List.mem_of_getElem? (i := 76) rfl), zt1 (List.mem_of_getElem? (i := 17) rfl), ⟨plainFor_of_name zpl_12.1, zpl_12.2.1, zpl_12.2.2, by decide +kernel, rfl⟩, ⟨zt9 (List.mem_of_getElem? (i := 74) rfl), zt9 (List.mem_of_getElem? (i := 75) rfl)⟩⟩
set_option maxRecDepth 100000 in
theorem zy_X12_fee : zYok (zY 298) := ⟨zt9 (List.mem_of_getElem? (i := 81) rfl), zt1 (List.mem_of_getElem? (i := 17) rfl), ⟨plainFor_of_name zpl_12.1, zpl_12.2.1, zpl_12.2.2, by decide +kernel, rfl⟩, ⟨zt9 (List.mem_of_getElem? (i := 79) rfl), zt9 (List.mem_of_getElem? (i := 80) rfl)⟩⟩
set_option maxRecDepth 100000 in
theorem zy_X12_step : zYok (zY 299) := ⟨zt9 (List.mem_of_getElem? (i := 86) rfl), zt1 (List.mem_of_getElem? (i := 17) rfl), ⟨plainFor_of_name zpl_12.1, zpl_12.2.1, zpl_12.2.2, by decide +kernel, rfl⟩, ⟨zt9 (List.mem_of_getElem? (i := 84) rfl), zt9 (List.mem_of_getElem? (i := 85) rfl)⟩⟩
set_option maxRecDepth 100000 in
theorem zy_X12_print : zYok (zY 300) := ⟨zt9 (List.mem_of_getElem? (i := 90) rfl), zt1 (List.mem_of_getElem? (i := 17) rfl), ⟨plainFor_of_name zpl_12.1, zpl_12.2.1, zpl_12.2.2, by decide +kernel, rfl⟩, ⟨zt9 (List.mem_of_getElem? (i := 88) rfl), zt9 (List.mem_of_getElem? (i := 89) rfl)⟩⟩
set_option maxRecDepth 100000 in
theorem zy_X12_areAlike : zYok (zY 301) := ⟨zt9 (List.mem_of_getElem? (i := 98) rfl), zt1 (List.mem_of_getElem? (i := 17) rfl), ⟨plainFor_of_name zpl_12.1, zpl_12.2.1, zpl_12.2.2, by decide +kernel, rfl⟩, ⟨zt9 (List.mem_of_getElem? (i := 97) rfl), zt0 (List.mem_of_getElem? (i := 137) rfl)⟩⟩
set_option maxRecDepth 100000 in
theorem zy_X12_alike : zYok (zY 302) := ⟨zt9 (List.mem_of_getElem? (i := 94) rfl), zt1 (List.mem_of_getElem? (i := 17) rfl), ⟨plainFor_of_name zpl_12.1, zpl_12.2.1, zpl_12.2.2, by decide +kernel, rfl⟩, ⟨zt9 (List.mem_of_getElem? (i := 92) rfl), zt9 (List.mem_of_getElem? (i := 93) rfl)⟩⟩
set_option maxRecDepth 100000 in
theorem zy_X12_strangers : zYok (zY 303) := ⟨zt9 (List.mem_of_getElem? (i := 102) rfl), zt1 (List.mem_of_getElem? (i := 17) rfl), ⟨plainFor_of_name zpl_12.1, zpl_12.2.1, zpl_12.2.2, by decide +kernel, rfl⟩, ⟨zt9 (List.mem_of_getElem? (i := 100) rfl), zt9 (List.mem_of_getElem? (i := 101) rfl)⟩⟩
set_option maxRecDepth 100000 in
theorem zy_X12_hold : zYok (zY 304) := ⟨zt9 (List.mem_of_getElem? (i := 106) rfl), zt1 (List.mem_of_getElem? (i := 17) rfl), ⟨plainFor_of_name zpl_12.1, zpl_12.2.1, zpl_12.2.2, by decide +kernel, rfl⟩, ⟨zt9 (List.mem_of_getElem? (i := 104) rfl), zt9 (List.mem_of_getElem? (i := 105) rfl)⟩⟩
set_option maxRecDepth 100000 in
theorem zy_X12_year : zYok (zY 305) := ⟨zt9 (List.mem_of_getElem? (i := 112) rfl), zt1 (List.mem_of_getElem? (i := 17) rfl), ⟨plainFor_of_name zpl_12.1, zpl_12.2.1, zpl_12.2.2, by decide +kernel, rfl⟩, ⟨zt9 (List.mem_of_getElem? (i := 110) rfl), zt9 (List.mem_of_getElem? (i := 111) rfl)⟩⟩
set_option maxRecDepth 100000 in
theorem zy_X12_drawOf : zYok (zY 306) := ⟨zt9 (List.mem_of_getElem? (i := 124) rfl), zt1 (List.mem_of_getElem? (i := 17) rfl), ⟨plainFor_of_name zpl_12.1, zpl_12.2.1, zpl_12.2.2, by decide +kernel, rfl⟩, ⟨zt9 (List.mem_of_getElem? (i := 123) rfl), zt0 (List.mem_of_getElem? (i := 139) rfl)⟩⟩
set_option maxRecDepth 100000 in
theorem zy_X12_drawnOf : zYok (zY 307) := ⟨zt9 (List.mem_of_getElem? (i := 120) rfl), zt1 (List.mem_of_getElem? (i := 17) rfl), ⟨plainFor_of_name zpl_12.1, zpl_12.2.1, zpl_12.2.2, by decide +kernel, rfl⟩, ⟨zt9 (List.mem_of_getElem? (i := 119) rfl), zt0 (List.mem_of_getElem? (i := 138) rfl)⟩⟩
set_option maxRecDepth 100000 in
theorem zy_X12_draw : zYok (zY 308) := ⟨zt9 (List.mem_of_getElem? (i := 116) rfl), zt1 (List.mem_of_getElem? (i := 17) rfl), ⟨plainFor_of_name zpl_12.1, zpl_12.2.1, zpl_12.2.2, by decide +kernel, rfl⟩, ⟨zt9 (List.mem_of_getElem? (i := 114) rfl), zt9 (List.mem_of_getElem? (i := 115) rfl)⟩⟩
set_option maxRecDepth 100000 in
theorem zy_X12_truth : zYok (zY 309) := ⟨zt9 (List.mem_of_getElem? (i := 132) rfl), zt1 (List.mem_of_getElem? (i := 17) rfl), ⟨plainFor_of_name zpl_12.1, zpl_12.2.1, zpl_12.2.2, by decide +kernel, rfl⟩, ⟨zt9 (List.mem_of_getElem? (i := 130) rfl), zt9 (List.mem_of_getElem? (i := 131) rfl)⟩⟩
set_option maxRecDepth 100000 in
theorem zy_X12_trial : zYok (zY 310) := ⟨zt9 (List.mem_of_getElem? (i := 136) rfl), zt1 (List.mem_of_getElem? (i := 17) rfl), ⟨plainFor_of_name zpl_12.1, zpl_12.2.1, zpl_12.2.2, by decide +kernel, rfl⟩, ⟨zt9 (List.mem_of_getElem? (i := 134) rfl), zt9 (List.mem_of_getElem? (i := 135) rfl)⟩⟩
set_option maxRecDepth 100000 in
theorem zy_X12_writes : zYok (zY 311) := ⟨zt9 (List.mem_of_getElem? (i := 144) rfl), zt1 (List.mem_of_getElem? (i := 17) rfl), ⟨plainFor_of_name zpl_12.1, zpl_12.2.1, zpl_12.2.2, by decide +kernel, rfl⟩, ⟨zt9 (List.mem_of_getElem? (i := 143) rfl), zt0 (List.mem_of_getElem? (i := 140) rfl)⟩⟩
set_option maxRecDepth 100000 in
theorem zy_X12_writesTwo : zYok (zY 312) := ⟨zt9 (List.mem_of_getElem? (i := 148) rfl), zt1 (List.mem_of_getElem? (i := 17) rfl), ⟨plainFor_of_name zpl_12.1, zpl_12.2.1, zpl_12.2.2, by decide +kernel, rfl⟩, ⟨zt9 (List.mem_of_getElem? (i := 147) rfl), zt0 (List.mem_of_getElem? (i := 141) rfl)⟩⟩
set_option maxRecDepth 100000 in
theorem zy_X12_checked : zYok (zY 313) := ⟨zt9 (List.mem_of_getElem? (i := 151) rfl), zt1 (List.mem_of_getElem? (i := 17) rfl), ⟨plainFor_of_name zpl_12.1, zpl_12.2.1, zpl_12.2.2, by decide +kernel, rfl⟩, zt9 (List.mem_of_getElem? (i := 150) rfl)⟩
set_option maxRecDepth 100000 in
theorem zy_X12_image : zYok (zY 314) := ⟨zt9 (List.mem_of_getElem? (i := 140) rfl), zt1 (List.mem_of_getElem? (i := 17) rfl), ⟨plainFor_of_name zpl_12.1, zpl_12.2.1, zpl_12.2.2, by decide +kernel, rfl⟩, ⟨zt9 (List.mem_of_getElem? (i := 138) rfl), zt9 (List.mem_of_getElem? (i := 139) rfl)⟩⟩
set_option maxRecDepth 100000 in
theorem zy_X12_octet : zYok (zY 315) := ⟨zt9 (List.mem_of_getElem? (i := 155) rfl), zt1 (List.mem_of_getElem? (i := 17) rfl), ⟨plainFor_of_name zpl_12.1, zpl_12.2.1, zpl_12.2.2, by decide +kernel, rfl⟩, ⟨zt9 (List.mem_of_getElem? (i := 153) rfl), zt9 (List.mem_of_getElem? (i := 154) rfl)⟩⟩
set_option maxRecDepth 100000 in
theorem zy_X12_twoAt : zYok (zY 316) := ⟨zt9 (List.mem_of_getElem? (i := 171) rfl), zt1 (List.mem_of_getElem? (i := 17) rfl), ⟨plainFor_of_name zpl_12.1, zpl_12.2.1, zpl_12.2.2, by decide +kernel, rfl⟩, ⟨zt9 (List.mem_of_getElem? (i := 170) rfl), zt0 (List.mem_of_getElem? (i := 144) rfl)⟩⟩
set_option maxRecDepth 100000 in
theorem zy_X12_isWhole : zYok (zY 317) := ⟨zt9 (List.mem_of_getElem? (i := 167) rfl), zt1 (List.mem_of_getElem? (i := 17) rfl), ⟨plainFor_of_name zpl_12.1, zpl_12.2.1, zpl_12.2.2, by decide +kernel, rfl⟩, ⟨zt9 (List.mem_of_getElem? (i := 166) rfl), zt0 (List.mem_of_getElem? (i := 143) rfl)⟩⟩
set_option maxRecDepth 100000 in
theorem zy_X12_isTold : zYok (zY 318) := ⟨zt9 (List.mem_of_getElem? (i := 163) rfl), zt1 (List.mem_of_getElem? (i := 17) rfl), ⟨plainFor_of_name zpl_12.1, zpl_12.2.1, zpl_12.2.2, by decide +kernel, rfl⟩, ⟨zt9 (List.mem_of_getElem? (i := 162) rfl), zt0 (List.mem_of_getElem? (i := 142) rfl)⟩⟩
set_option maxRecDepth 100000 in
theorem zy_X12_on : zYok (zY 319) := ⟨zt9 (List.mem_of_getElem? (i := 159) rfl), zt1 (List.mem_of_getElem? (i := 17) rfl), ⟨plainFor_of_name zpl_12.1, zpl_12.2.1, zpl_12.2.2, by decide +kernel, rfl⟩, ⟨zt9 (List.mem_of_getElem? (i := 157) rfl), zt9 (List.mem_of_getElem? (i := 158) rfl)⟩⟩
set_option maxRecDepth 100000 in
theorem zy_J6_bitCount_0f7a4 : zYok (zY 320) := ⟨zt4 (List.mem_of_getElem? (i := 99) rfl), zt1 (List.mem_of_getElem? (i := 21) rfl), ⟨plainFor_of_name zpl_16.1, zpl_16.2.1, zpl_16.2.2, by decide +kernel, rfl⟩, zt4 (List.mem_of_getElem? (i := 98) rfl)⟩
set_option maxRecDepth 100000 in
theorem zy_J9_floorDiv_7cf53 : zYok (zY 321) := ⟨zt5 (List.mem_of_getElem? (i := 37) rfl), zt1 (List.mem_of_getElem? (i := 18) rfl), ⟨by decide +kernel, zpl_18.2.1, zpl_18.2.2, by decide +kernel, rfl⟩, zt5 (List.mem_of_getElem? (i := 36) rfl)⟩
set_option maxRecDepth 100000 in
theorem zy_J9_floorDiv_f86c9 : zYok (zY 322) := ⟨zt4 (List.mem_of_getElem? (i := 212) rfl), zt1 (List.mem_of_getElem? (i := 18) rfl), ⟨by decide +kernel, zpl_18.2.1, zpl_18.2.2, by decide +kernel, rfl⟩, zt4 (List.mem_of_getElem? (i := 211) rfl)⟩
set_option maxRecDepth 100000 in
theorem zy_J9_floorMod_7cf53 : zYok (zY 323) := ⟨zt5 (List.mem_of_getElem? (i := 85) rfl), zt1 (List.mem_of_getElem? (i := 18) rfl), ⟨by decide +kernel, zpl_18.2.1, zpl_18.2.2, by decide +kernel, rfl⟩, zt5 (List.mem_of_getElem? (i := 84) rfl)⟩
set_option maxRecDepth 100000 in
theorem zy_J9_max_7cf53 : zYok (zY 324) := ⟨zt4 (List.mem_of_getElem? (i := 198) rfl), zt1 (List.mem_of_getElem? (i := 18) rfl), ⟨by decide +kernel, zpl_18.2.1, zpl_18.2.2, by decide +kernel, rfl⟩, zt4 (List.mem_of_getElem? (i := 197) rfl)⟩
set_option maxRecDepth 100000 in
theorem zy_J9_max_f86c9 : zYok (zY 325) := ⟨zt5 (List.mem_of_getElem? (i := 34) rfl), zt1 (List.mem_of_getElem? (i := 18) rfl), ⟨by decide +kernel, zpl_18.2.1, zpl_18.2.2, by decide +kernel, rfl⟩, zt5 (List.mem_of_getElem? (i := 33) rfl)⟩
set_option maxRecDepth 100000 in
theorem zy_J9_min_7cf53 : zYok (zY 326) := ⟨zt3 (List.mem_of_getElem? (i := 6) rfl), zt1 (List.mem_of_getElem? (i := 18) rfl), ⟨by decide +kernel, zpl_18.2.1, zpl_18.2.2, by decide +kernel, rfl⟩, zt3 (List.mem_of_getElem? (i := 5) rfl)⟩
set_option maxRecDepth 100000 in
theorem zy_J9_min_f86c9 : zYok (zY 327) := ⟨zt5 (List.mem_of_getElem? (i := 31) rfl), zt1 (List.mem_of_getElem? (i := 18) rfl), ⟨by decide +kernel, zpl_18.2.1, zpl_18.2.2, by decide +kernel, rfl⟩, zt5 (List.mem_of_getElem? (i := 30) rfl)⟩
set_option maxRecDepth 100000 in
theorem zy_J0_length_8abf5 : zYok (zY 328) := ⟨zt1 (List.mem_of_getElem? (i := 40) rfl), zt1 (List.mem_of_getElem? (i := 3) rfl), ⟨plainFor_of_name zpl_13.1, zpl_13.2.1, zpl_13.2.2, by decide +kernel, rfl⟩, ⟨zt1 (List.mem_of_getElem? (i := 38) rfl), zt1 (List.mem_of_getElem? (i := 39) rfl)⟩⟩
set_option maxRecDepth 100000 in
theorem zy_J0_charAt_5068e : zYok (zY 329) := ⟨zt1 (List.mem_of_getElem? (i := 50) rfl), zt1 (List.mem_of_getElem? (i := 3) rfl), ⟨plainFor_of_name zpl_13.1, zpl_13.2.1, zpl_13.2.2, by decide +kernel, rfl⟩, ⟨zt1 (List.mem_of_getElem? (i := 48) rfl), zt1 (List.mem_of_getElem? (i := 49) rfl)⟩⟩
set_option maxRecDepth 100000 in
theorem zy_J0_coder_7d493 : zYok (zY 330) := ⟨zt1 (List.mem_of_getElem? (i := 44) rfl), zt1 (List.mem_of_getElem? (i := 3) rfl), ⟨plainFor_of_name zpl_13.1, zpl_13.2.1, zpl_13.2.2, by decide +kernel, rfl⟩, ⟨zt1 (List.mem_of_getElem? (i := 42) rfl), zt1 (List.mem_of_getElem? (i := 43) rfl)⟩⟩
set_option maxRecDepth 100000 in
theorem zy_J0_isLatin1_aae02 : zYok (zY 331) := ⟨zt1 (List.mem_of_getElem? (i := 54) rfl), zt1 (List.mem_of_getElem? (i := 3) rfl), ⟨plainFor_of_name zpl_13.1, zpl_13.2.1, zpl_13.2.2, by decide +kernel, rfl⟩, ⟨zt1 (List.mem_of_getElem? (i := 52) rfl), zt1 (List.mem_of_getElem? (i := 53) rfl)⟩⟩
set_option maxRecDepth 100000 in
theorem zy_J0_checkIndex_df160 : zYok (zY 332) := ⟨zt1 (List.mem_of_getElem? (i := 60) rfl), zt1 (List.mem_of_getElem? (i := 3) rfl), ⟨plainFor_of_name zpl_13.1, zpl_13.2.1, zpl_13.2.2, by decide +kernel, rfl⟩, zt1 (List.mem_of_getElem? (i := 59) rfl)⟩
set_option maxRecDepth 100000 in
theorem zy_J1_charAt_3b067 : zYok (zY 333) := ⟨zt1 (List.mem_of_getElem? (i := 57) rfl), zt1 (List.mem_of_getElem? (i := 4) rfl), ⟨plainFor_of_name zpl_14.1, zpl_14.2.1, zpl_14.2.2, by decide +kernel, rfl⟩, zt1 (List.mem_of_getElem? (i := 56) rfl)⟩
set_option maxRecDepth 100000 in
theorem zy_J7_fill_d0a16 : zYok (zY 334) := ⟨zt4 (List.mem_of_getElem? (i := 134) rfl), zt1 (List.mem_of_getElem? (i := 19) rfl), ⟨plainFor_of_name zpl_17.1, zpl_17.2.1, zpl_17.2.2, by decide +kernel, rfl⟩, zt4 (List.mem_of_getElem? (i := 133) rfl)⟩
set_option maxRecDepth 100000 in
theorem zy_J7_fill_53178 : zYok (zY 335) := ⟨zt3 (List.mem_of_getElem? (i := 32) rfl), zt1 (List.mem_of_getElem? (i := 19) rfl), ⟨plainFor_of_name zpl_17.1, zpl_17.2.1, zpl_17.2.2, by decide +kernel, rfl⟩, zt3 (List.mem_of_getElem? (i := 31) rfl)⟩
set_option maxRecDepth 100000 in
theorem zy_J7_copyOf_59c91 : zYok (zY 336) := ⟨zt3 (List.mem_of_getElem? (i := 219) rfl), zt1 (List.mem_of_getElem? (i := 19) rfl), ⟨plainFor_of_name zpl_17.1, zpl_17.2.1, zpl_17.2.2, by decide +kernel, rfl⟩, zt3 (List.mem_of_getElem? (i := 218) rfl)⟩
set_option maxRecDepth 100000 in
theorem zy_J3_checkIndex_8e157 : zYok (zY 337) := ⟨zt1 (List.mem_of_getElem? (i := 65) rfl), zt1 (List.mem_of_getElem? (i := 5) rfl), ⟨plainFor_of_name zpl_15.1, zpl_15.2.1, zpl_15.2.2, by decide +kernel, rfl⟩, zt1 (List.mem_of_getElem? (i := 64) rfl)⟩
/-- the number of the class of each tag, its fields (class, name, descriptor) -/
def zFd (t j : Nat) : String × String × String := bif Nat.beq t 20 then (bif Nat.beq j 0 then ("java/lang/String", "value", "[B") else ("java/lang/String", "coder", "B")) else (((vwCl.getD (t - 1) ("", TX0, 0)).2.1 j).1, ((vwCl.getD (t - 1) ("", TX0, 0)).2.1 j).2.1, ((vwCl.getD (t - 1) ("", TX0, 0)).2.1 j).2.2.1)
/-- field links: number of the own class, index, tag, field -/
def zFLT : List (Nat × Nat × Nat × Nat × Nat) := [(0, 11, 1, 0, 2), (0, 19, 1, 1, 2), (0, 25, 1, 2, 2), (0, 29, 1, 3, 2), (0, 36, 1, 4, 2), (0, 43, 1, 5, 0), (0, 47, 1, 6, 0), (0, 50, 1, 7, 0), (0, 53, 1, 8, 0), (0, 56, 1, 9, 0), (0, 59, 1, 10, 0), (0, 71, 4, 3, 0), (0, 74, 4, 0, 0), (0, 77, 9, 0, 0), (0, 78, 6, 0, 0), (0, 83, 4, 1, 0), (1, 9, 2, 0, 2), (1, 54, 1, 3, 2), (1, 66, 1, 8, 0), (1, 70, 1, 9, 0), (1, 73, 1, 10, 0), (1, 82, 1, 5, 0), (1, 85, 1, 0, 2), (1, 95, 4, 0, 0), (1, 107, 4, 1, 0), (1, 110, 4, 2, 2), (1, 116, 1, 6, 0), (1, 119, 1, 1, 2), (1, 123, 9, 0, 0), (1, 126, 9, 1, 2), (1, 129, 9, 2, 0), (1, 132, 9, 3, 0), (1, 135, 9, 4, 0), (1, 146, 1, 4, 2), (1, 156, 1, 7, 0), (1, 159, 1, 2, 2), (1, 163, 6, 0, 0), (1, 166, 6, 1, 2), (2, 11, 3, 0, 2), (2, 15, 3, 1, 0), (2, 23, 5, 0, 0), (2, 28, 5, 1, 0), (2, 31, 5, 2, 2), (2, 39, 1, 5, 0), (2, 44, 1, 0, 2), (2, 48, 4, 2, 2), (2, 69, 1, 6, 0), (3, 9, 4, 2, 2), (3, 15, 4, 3, 0), (4, 9, 5, 2, 2), (4, 15, 5, 5, 0), (4, 19, 5, 7, 0), (4, 22, 5, 8, 2), (4, 25, 5, 0, 0), (4, 28, 5, 1, 0), (4, 37, 5, 3, 0), (4, 40, 5, 4, 0), (4, 43, 5, 6, 0), (5, 9, 6, 1, 2), (6, 11, 7, 1, 2), (6, 17, 7, 2, 2), (6, 20, 7, 4, 2), (6, 23, 7, 0, 2), (6, 31, 7, 5, 0), (6, 72, 7, 3, 0), (7, 9, 8, 0, 2), (7, 15, 8, 1, 2), (7, 18, 8, 2, 2), (7, 21, 8, 3, 2), (7, 25, 8, 4, 0), (8, 9, 9, 1, 2), (9, 11, 10, 0, 2), (9, 15, 10, 1, 2), (9, 24, 10, 2, 0), (9, 28, 10, 3, 0), (10, 11, 11, 0, 2), (10, 15, 11, 1, 2), (10, 19, 11, 7, 0), (10, 23, 11, 9, 0), (10, 41, 11, 8, 0), (10, 44, 11, 5, 0), (10, 53, 11, 2, 0), (10, 55, 11, 3, 0), (10, 58, 11, 4, 0), (10, 68, 11, 6, 0), (11, 9, 12, 0, 2), (11, 16, 12, 2, 2), (11, 25, 12, 3, 2), (11, 32, 12, 4, 2), (11, 39, 12, 5, 2), (11, 43, 12, 6, 2), (11, 46, 12, 8, 0), (11, 52, 12, 9, 2), (11, 59, 12, 13, 2), (11, 66, 12, 14, 2), (11, 70, 12, 15, 2), (11, 74, 12, 16, 2), (11, 77, 12, 17, 2), (11, 80, 12, 18, 2), (11, 84, 12, 1, 0), (11, 106, 12, 10, 0), (11, 109, 12, 11, 0), (11, 118, 12, 7, 0), (11, 122, 1, 5, 0), (11, 125, 1, 6, 0), (11, 128, 1, 7, 0), (11, 134, 1, 8, 0), (11, 137, 1, 9, 0), (11, 140, 1, 10, 0), (11, 146, 1, 4, 2), (11, 173, 1, 0, 2), (11, 177, 4, 0, 0), (11, 185, 1, 1, 2), (11, 189, 9, 0, 0), (11, 195, 1, 2, 2), (11, 199, 6, 0, 0), (11, 215, 5, 0, 0), (11, 220, 9, 1, 2), (11, 227, 5, 2, 2), (11, 231, 4, 2, 2), (11, 234, 5, 1, 0), (11, 237, 5, 3, 0), (11, 240, 5, 4, 0), (11, 243, 5, 5, 0), (11, 246, 5, 6, 0), (11, 249, 5, 7, 0), (11, 268, 1, 3, 2), (11, 275, 9, 2, 0), (11, 288, 8, 0, 2), (11, 296, 8, 1, 2), (11, 343, 9, 4, 0), (11, 375, 4, 1, 0), (11, 419, 6, 1, 2), (11, 451, 9, 3, 0), (11, 456, 12, 12, 1), (11, 464, 4, 3, 0), (12, 7, 13, 0, 2), (12, 13, 13, 8, 0), (12, 17, 13, 10, 2), (12, 21, 13, 11, 2), (12, 24, 13, 12, 2), (12, 27, 13, 13, 2), (12, 30, 13, 14, 2), (12, 33, 13, 15, 2), (12, 36, 13, 16, 2), (12, 39, 13, 17, 2), (12, 42, 13, 18, 2), (12, 45, 13, 19, 2), (12, 48, 13, 20, 2), (12, 51, 13, 21, 2), (12, 54, 13, 22, 2), (12, 57, 13, 23, 2), (12, 60, 13, 24, 2), (12, 63, 13, 25, 2), (12, 66, 13, 26, 2), (12, 69, 13, 27, 2), (12, 72, 13, 28, 2), (12, 75, 13, 29, 2), (12, 78, 13, 30, 2), (12, 81, 13, 31, 2), (12, 84, 13, 32, 2), (12, 87, 13, 33, 2), (12, 90, 13, 34, 2), (12, 93, 13, 35, 2), (12, 96, 13, 36, 2), (12, 99, 13, 37, 2), (12, 102, 13, 38, 2), (12, 105, 13, 39, 2), (12, 108, 13, 40, 2), (12, 111, 13, 41, 2), (12, 114, 13, 42, 2), (12, 117, 13, 43, 2), (12, 120, 13, 44, 2), (12, 123, 13, 46, 2), (12, 127, 13, 47, 2), (12, 130, 13, 48, 2), (12, 133, 13, 49, 2), (12, 136, 13, 50, 2), (12, 139, 13, 51, 2), (12, 142, 13, 52, 2), (12, 145, 13, 53, 2), (12, 148, 13, 54, 2), (12, 151, 13, 55, 2), (12, 154, 13, 56, 2), (12, 157, 13, 57, 2), (12, 160, 13, 59, 2), (12, 163, 13, 61, 2), (12, 166, 13, 64, 2), (12, 170, 13, 65, 2), (12, 173, 13, 66, 2), (12, 176, 13, 67, 2), (12, 179, 13, 68, 2), (12, 182, 13, 71, 2), (12, 185, 13, 72, 2), (12, 188, 13, 73, 2), (12, 191, 13, 74, 2), (12, 194, 13, 75, 2), (12, 197, 13, 76, 2), (12, 200, 13, 77, 2), (12, 203, 13, 78, 2), (12, 206, 13, 79, 2), (12, 209, 13, 80, 2), (12, 212, 13, 81, 2), (12, 215, 13, 85, 2), (12, 218, 13, 86, 2), (12, 221, 13, 87, 2), (12, 224, 13, 89, 2), (12, 227, 13, 90, 2), (12, 230, 13, 91, 2), (12, 233, 13, 92, 2), (12, 236, 13, 93, 2), (12, 239, 13, 94, 2), (12, 242, 13, 96, 2), (12, 245, 13, 1, 0), (12, 248, 13, 5, 0), (12, 251, 13, 6, 0), (12, 254, 13, 2, 0), (12, 257, 13, 3, 0), (12, 268, 13, 4, 0), (12, 288, 13, 9, 0), (12, 299, 13, 45, 0), (12, 306, 13, 58, 0), (12, 309, 13, 60, 0), (12, 365, 13, 7, 0), (12, 371, 13, 70, 0), (12, 374, 13, 82, 0), (12, 377, 13, 83, 0), (12, 380, 13, 84, 0), (12, 383, 13, 63, 0), (12, 386, 13, 62, 0), (12, 392, 13, 69, 0), (12, 535, 13, 88, 0), (12, 636, 13, 95, 1), (12, 653, 13, 97, 0), (13, 9, 20, 0, 2), (13, 15, 20, 1, 0)]
def zfk (d : String) : Nat := bif d == "I" || d == "B" then 0 else bif d == "J" then 1 else 2
/-- how many fields the class of a tag has -/
def zNf (t : Nat) : Nat := bif Nat.beq t 20 then 2 else (vwCl.getD (t - 1) ("", TX0, 0)).2.2
def zFok (e : Nat × Nat × Nat × Nat × Nat) : Prop := Cond.fieldLink (zcn e.1) e.2.1 (zFd e.2.2.1 e.2.2.2.1).1 (zFd e.2.2.1 e.2.2.2.1).2.1 (zFd e.2.2.1 e.2.2.2.1).2.2 ∈ lw_tbl ∧ e.2.2.2.2 = zfk (zFd e.2.2.1 e.2.2.2.1).2.2 ∧ e.2.2.2.1 < zNf e.2.2.1 ∧ (e.2.2.1 = 20 ∨ (1 ≤ e.2.2.1 ∧ e.2.2.1 ≤ 13))
set_option maxRecDepth 100000 in
theorem zf_0 : zFok (0, 11, 1, 0, 2) := ⟨zt2 (List.mem_of_getElem? (i := 19) rfl), by decide +kernel, by decide +kernel, by decide +kernel⟩
set_option maxRecDepth 100000 in
theorem zf_1 : zFok (0, 19, 1, 1, 2) := ⟨zt2 (List.mem_of_getElem? (i := 23) rfl), by decide +kernel, by decide +kernel, by decide +kernel⟩
set_option maxRecDepth 100000 in
theorem zf_2 : zFok (0, 25, 1, 2, 2) := ⟨zt2 (List.mem_of_getElem? (i := 26) rfl), by decide +kernel, by decide +kernel, by decide +kernel⟩
set_option maxRecDepth 100000 in
theorem zf_3 : zFok (0, 29, 1, 3, 2) := ⟨zt2 (List.mem_of_getElem? (i := 29) rfl), by decide +kernel, by decide +kernel, by decide +kernel⟩
set_option maxRecDepth 100000 in
theorem zf_4 : zFok (0, 36, 1, 4, 2) := ⟨zt2 (List.mem_of_getElem? (i := 32) rfl), by decide +kernel, by decide +kernel, by decide +kernel⟩
set_option maxRecDepth 100000 in
theorem zf_5 : zFok (0, 43, 1, 5, 0) := ⟨zt2 (List.mem_of_getElem? (i := 35) rfl), by decide +kernel, by decide +kernel, by decide +kernel⟩
set_option maxRecDepth 100000 in
theorem zf_6 : zFok (0, 47, 1, 6, 0) := ⟨zt2 (List.mem_of_getElem? (i := 39) rfl), by decide +kernel, by decide +kernel, by decide +kernel⟩
set_option maxRecDepth 100000 in
theorem zf_7 : zFok (0, 50, 1, 7, 0) := ⟨zt2 (List.mem_of_getElem? (i := 43) rfl), by decide +kernel, by decide +kernel, by decide +kernel⟩
set_option maxRecDepth 100000 in
theorem zf_8 : zFok (0, 53, 1, 8, 0) := ⟨zt2 (List.mem_of_getElem? (i := 46) rfl), by decide +kernel, by decide +kernel, by decide +kernel⟩
set_option maxRecDepth 100000 in
theorem zf_9 : zFok (0, 56, 1, 9, 0) := ⟨zt2 (List.mem_of_getElem? (i := 49) rfl), by decide +kernel, by decide +kernel, by decide +kernel⟩
set_option maxRecDepth 100000 in
theorem zf_10 : zFok (0, 59, 1, 10, 0) := ⟨zt2 (List.mem_of_getElem? (i := 52) rfl), by decide +kernel, by decide +kernel, by decide +kernel⟩
set_option maxRecDepth 100000 in
theorem zf_11 : zFok (0, 71, 4, 3, 0) := ⟨zt1 (List.mem_of_getElem? (i := 204) rfl), by decide +kernel, by decide +kernel, by decide +kernel⟩
set_option maxRecDepth 100000 in
theorem zf_12 : zFok (0, 74, 4, 0, 0) := ⟨zt1 (List.mem_of_getElem? (i := 193) rfl), by decide +kernel, by decide +kernel, by decide +kernel⟩
set_option maxRecDepth 100000 in
theorem zf_13 : zFok (0, 77, 9, 0, 0) := ⟨zt1 (List.mem_of_getElem? (i := 220) rfl), by decide +kernel, by decide +kernel, by decide +kernel⟩
set_option maxRecDepth 100000 in
theorem zf_14 : zFok (0, 78, 6, 0, 0) := ⟨zt2 (List.mem_of_getElem? (i := 8) rfl), by decide +kernel, by decide +kernel, by decide +kernel⟩
set_option maxRecDepth 100000 in
theorem zf_15 : zFok (0, 83, 4, 1, 0) := ⟨zt1 (List.mem_of_getElem? (i := 197) rfl), by decide +kernel, by decide +kernel, by decide +kernel⟩
set_option maxRecDepth 100000 in
theorem zf_16 : zFok (1, 9, 2, 0, 2) := ⟨zt1 (List.mem_of_getElem? (i := 126) rfl), by decide +kernel, by decide +kernel, by decide +kernel⟩
set_option maxRecDepth 100000 in
theorem zf_17 : zFok (1, 54, 1, 3, 2) := ⟨zt2 (List.mem_of_getElem? (i := 30) rfl), by decide +kernel, by decide +kernel, by decide +kernel⟩
set_option maxRecDepth 100000 in
theorem zf_18 : zFok (1, 66, 1, 8, 0) := ⟨zt2 (List.mem_of_getElem? (i := 47) rfl), by decide +kernel, by decide +kernel, by decide +kernel⟩
set_option maxRecDepth 100000 in
theorem zf_19 : zFok (1, 70, 1, 9, 0) := ⟨zt2 (List.mem_of_getElem? (i := 50) rfl), by decide +kernel, by decide +kernel, by decide +kernel⟩
set_option maxRecDepth 100000 in
theorem zf_20 : zFok (1, 73, 1, 10, 0) := ⟨zt2 (List.mem_of_getElem? (i := 53) rfl), by decide +kernel, by decide +kernel, by decide +kernel⟩
set_option maxRecDepth 100000 in
theorem zf_21 : zFok (1, 82, 1, 5, 0) := ⟨zt2 (List.mem_of_getElem? (i := 37) rfl), by decide +kernel, by decide +kernel, by decide +kernel⟩
set_option maxRecDepth 100000 in
theorem zf_22 : zFok (1, 85, 1, 0, 2) := ⟨zt2 (List.mem_of_getElem? (i := 21) rfl), by decide +kernel, by decide +kernel, by decide +kernel⟩
set_option maxRecDepth 100000 in
theorem zf_23 : zFok (1, 95, 4, 0, 0) := ⟨zt1 (List.mem_of_getElem? (i := 194) rfl), by decide +kernel, by decide +kernel, by decide +kernel⟩
set_option maxRecDepth 100000 in
theorem zf_24 : zFok (1, 107, 4, 1, 0) := ⟨zt1 (List.mem_of_getElem? (i := 196) rfl), by decide +kernel, by decide +kernel, by decide +kernel⟩
set_option maxRecDepth 100000 in
theorem zf_25 : zFok (1, 110, 4, 2, 2) := ⟨zt1 (List.mem_of_getElem? (i := 201) rfl), by decide +kernel, by decide +kernel, by decide +kernel⟩
set_option maxRecDepth 100000 in
theorem zf_26 : zFok (1, 116, 1, 6, 0) := ⟨zt2 (List.mem_of_getElem? (i := 40) rfl), by decide +kernel, by decide +kernel, by decide +kernel⟩
set_option maxRecDepth 100000 in
theorem zf_27 : zFok (1, 119, 1, 1, 2) := ⟨zt2 (List.mem_of_getElem? (i := 24) rfl), by decide +kernel, by decide +kernel, by decide +kernel⟩
set_option maxRecDepth 100000 in
theorem zf_28 : zFok (1, 123, 9, 0, 0) := ⟨zt1 (List.mem_of_getElem? (i := 221) rfl), by decide +kernel, by decide +kernel, by decide +kernel⟩
set_option maxRecDepth 100000 in
theorem zf_29 : zFok (1, 126, 9, 1, 2) := ⟨zt1 (List.mem_of_getElem? (i := 224) rfl), by decide +kernel, by decide +kernel, by decide +kernel⟩
set_option maxRecDepth 100000 in
theorem zf_30 : zFok (1, 129, 9, 2, 0) := ⟨zt1 (List.mem_of_getElem? (i := 226) rfl), by decide +kernel, by decide +kernel, by decide +kernel⟩
set_option maxRecDepth 100000 in
theorem zf_31 : zFok (1, 132, 9, 3, 0) := ⟨zt1 (List.mem_of_getElem? (i := 228) rfl), by decide +kernel, by decide +kernel, by decide +kernel⟩
set_option maxRecDepth 100000 in
theorem zf_32 : zFok (1, 135, 9, 4, 0) := ⟨zt1 (List.mem_of_getElem? (i := 230) rfl), by decide +kernel, by decide +kernel, by decide +kernel⟩
set_option maxRecDepth 100000 in
theorem zf_33 : zFok (1, 146, 1, 4, 2) := ⟨zt2 (List.mem_of_getElem? (i := 33) rfl), by decide +kernel, by decide +kernel, by decide +kernel⟩
set_option maxRecDepth 100000 in
theorem zf_34 : zFok (1, 156, 1, 7, 0) := ⟨zt2 (List.mem_of_getElem? (i := 44) rfl), by decide +kernel, by decide +kernel, by decide +kernel⟩
set_option maxRecDepth 100000 in
theorem zf_35 : zFok (1, 159, 1, 2, 2) := ⟨zt2 (List.mem_of_getElem? (i := 27) rfl), by decide +kernel, by decide +kernel, by decide +kernel⟩
set_option maxRecDepth 100000 in
theorem zf_36 : zFok (1, 163, 6, 0, 0) := ⟨zt2 (List.mem_of_getElem? (i := 9) rfl), by decide +kernel, by decide +kernel, by decide +kernel⟩
set_option maxRecDepth 100000 in
theorem zf_37 : zFok (1, 166, 6, 1, 2) := ⟨zt2 (List.mem_of_getElem? (i := 12) rfl), by decide +kernel, by decide +kernel, by decide +kernel⟩
set_option maxRecDepth 100000 in
theorem zf_38 : zFok (2, 11, 3, 0, 2) := ⟨zt2 (List.mem_of_getElem? (i := 111) rfl), by decide +kernel, by decide +kernel, by decide +kernel⟩
set_option maxRecDepth 100000 in
theorem zf_39 : zFok (2, 15, 3, 1, 0) := ⟨zt2 (List.mem_of_getElem? (i := 112) rfl), by decide +kernel, by decide +kernel, by decide +kernel⟩
set_option maxRecDepth 100000 in
theorem zf_40 : zFok (2, 23, 5, 0, 0) := ⟨zt2 (List.mem_of_getElem? (i := 124) rfl), by decide +kernel, by decide +kernel, by decide +kernel⟩
set_option maxRecDepth 100000 in
theorem zf_41 : zFok (2, 28, 5, 1, 0) := ⟨zt2 (List.mem_of_getElem? (i := 127) rfl), by decide +kernel, by decide +kernel, by decide +kernel⟩
set_option maxRecDepth 100000 in
theorem zf_42 : zFok (2, 31, 5, 2, 2) := ⟨zt2 (List.mem_of_getElem? (i := 130) rfl), by decide +kernel, by decide +kernel, by decide +kernel⟩
set_option maxRecDepth 100000 in
theorem zf_43 : zFok (2, 39, 1, 5, 0) := ⟨zt2 (List.mem_of_getElem? (i := 36) rfl), by decide +kernel, by decide +kernel, by decide +kernel⟩
set_option maxRecDepth 100000 in
theorem zf_44 : zFok (2, 44, 1, 0, 2) := ⟨zt2 (List.mem_of_getElem? (i := 20) rfl), by decide +kernel, by decide +kernel, by decide +kernel⟩
set_option maxRecDepth 100000 in
theorem zf_45 : zFok (2, 48, 4, 2, 2) := ⟨zt1 (List.mem_of_getElem? (i := 200) rfl), by decide +kernel, by decide +kernel, by decide +kernel⟩
set_option maxRecDepth 100000 in
theorem zf_46 : zFok (2, 69, 1, 6, 0) := ⟨zt2 (List.mem_of_getElem? (i := 41) rfl), by decide +kernel, by decide +kernel, by decide +kernel⟩
set_option maxRecDepth 100000 in
theorem zf_47 : zFok (3, 9, 4, 2, 2) := ⟨zt1 (List.mem_of_getElem? (i := 199) rfl), by decide +kernel, by decide +kernel, by decide +kernel⟩
set_option maxRecDepth 100000 in
theorem zf_48 : zFok (3, 15, 4, 3, 0) := ⟨zt1 (List.mem_of_getElem? (i := 203) rfl), by decide +kernel, by decide +kernel, by decide +kernel⟩
set_option maxRecDepth 100000 in
theorem zf_49 : zFok (4, 9, 5, 2, 2) := ⟨zt2 (List.mem_of_getElem? (i := 129) rfl), by decide +kernel, by decide +kernel, by decide +kernel⟩
set_option maxRecDepth 100000 in
theorem zf_50 : zFok (4, 15, 5, 5, 0) := ⟨zt2 (List.mem_of_getElem? (i := 136) rfl), by decide +kernel, by decide +kernel, by decide +kernel⟩
set_option maxRecDepth 100000 in
theorem zf_51 : zFok (4, 19, 5, 7, 0) := ⟨zt2 (List.mem_of_getElem? (i := 140) rfl), by decide +kernel, by decide +kernel, by decide +kernel⟩
set_option maxRecDepth 100000 in
theorem zf_52 : zFok (4, 22, 5, 8, 2) := ⟨zt2 (List.mem_of_getElem? (i := 142) rfl), by decide +kernel, by decide +kernel, by decide +kernel⟩
set_option maxRecDepth 100000 in
theorem zf_53 : zFok (4, 25, 5, 0, 0) := ⟨zt2 (List.mem_of_getElem? (i := 123) rfl), by decide +kernel, by decide +kernel, by decide +kernel⟩
set_option maxRecDepth 100000 in
theorem zf_54 : zFok (4, 28, 5, 1, 0) := ⟨zt2 (List.mem_of_getElem? (i := 126) rfl), by decide +kernel, by decide +kernel, by decide +kernel⟩
set_option maxRecDepth 100000 in
theorem zf_55 : zFok (4, 37, 5, 3, 0) := ⟨zt2 (List.mem_of_getElem? (i := 132) rfl), by decide +kernel, by decide +kernel, by decide +kernel⟩
set_option maxRecDepth 100000 in
theorem zf_56 : zFok (4, 40, 5, 4, 0) := ⟨zt2 (List.mem_of_getElem? (i := 134) rfl), by decide +kernel, by decide +kernel, by decide +kernel⟩
set_option maxRecDepth 100000 in
theorem zf_57 : zFok (4, 43, 5, 6, 0) := ⟨zt2 (List.mem_of_getElem? (i := 138) rfl), by decide +kernel, by decide +kernel, by decide +kernel⟩
set_option maxRecDepth 100000 in
theorem zf_58 : zFok (5, 9, 6, 1, 2) := ⟨zt2 (List.mem_of_getElem? (i := 11) rfl), by decide +kernel, by decide +kernel, by decide +kernel⟩
set_option maxRecDepth 100000 in
theorem zf_59 : zFok (6, 11, 7, 1, 2) := ⟨zt1 (List.mem_of_getElem? (i := 139) rfl), by decide +kernel, by decide +kernel, by decide +kernel⟩
set_option maxRecDepth 100000 in
theorem zf_60 : zFok (6, 17, 7, 2, 2) := ⟨zt1 (List.mem_of_getElem? (i := 140) rfl), by decide +kernel, by decide +kernel, by decide +kernel⟩
set_option maxRecDepth 100000 in
theorem zf_61 : zFok (6, 20, 7, 4, 2) := ⟨zt1 (List.mem_of_getElem? (i := 142) rfl), by decide +kernel, by decide +kernel, by decide +kernel⟩
set_option maxRecDepth 100000 in
theorem zf_62 : zFok (6, 23, 7, 0, 2) := ⟨zt1 (List.mem_of_getElem? (i := 138) rfl), by decide +kernel, by decide +kernel, by decide +kernel⟩
set_option maxRecDepth 100000 in
theorem zf_63 : zFok (6, 31, 7, 5, 0) := ⟨zt1 (List.mem_of_getElem? (i := 143) rfl), by decide +kernel, by decide +kernel, by decide +kernel⟩
set_option maxRecDepth 100000 in
theorem zf_64 : zFok (6, 72, 7, 3, 0) := ⟨zt1 (List.mem_of_getElem? (i := 141) rfl), by decide +kernel, by decide +kernel, by decide +kernel⟩
set_option maxRecDepth 100000 in
theorem zf_65 : zFok (7, 9, 8, 0, 2) := ⟨zt2 (List.mem_of_getElem? (i := 86) rfl), by decide +kernel, by decide +kernel, by decide +kernel⟩
set_option maxRecDepth 100000 in
theorem zf_66 : zFok (7, 15, 8, 1, 2) := ⟨zt2 (List.mem_of_getElem? (i := 88) rfl), by decide +kernel, by decide +kernel, by decide +kernel⟩
set_option maxRecDepth 100000 in
theorem zf_67 : zFok (7, 18, 8, 2, 2) := ⟨zt2 (List.mem_of_getElem? (i := 90) rfl), by decide +kernel, by decide +kernel, by decide +kernel⟩
set_option maxRecDepth 100000 in
theorem zf_68 : zFok (7, 21, 8, 3, 2) := ⟨zt2 (List.mem_of_getElem? (i := 91) rfl), by decide +kernel, by decide +kernel, by decide +kernel⟩
set_option maxRecDepth 100000 in
theorem zf_69 : zFok (7, 25, 8, 4, 0) := ⟨zt2 (List.mem_of_getElem? (i := 92) rfl), by decide +kernel, by decide +kernel, by decide +kernel⟩
set_option maxRecDepth 100000 in
theorem zf_70 : zFok (8, 9, 9, 1, 2) := ⟨zt1 (List.mem_of_getElem? (i := 223) rfl), by decide +kernel, by decide +kernel, by decide +kernel⟩
set_option maxRecDepth 100000 in
theorem zf_71 : zFok (9, 11, 10, 0, 2) := ⟨zt1 (List.mem_of_getElem? (i := 175) rfl), by decide +kernel, by decide +kernel, by decide +kernel⟩
set_option maxRecDepth 100000 in
theorem zf_72 : zFok (9, 15, 10, 1, 2) := ⟨zt1 (List.mem_of_getElem? (i := 176) rfl), by decide +kernel, by decide +kernel, by decide +kernel⟩
set_option maxRecDepth 100000 in
theorem zf_73 : zFok (9, 24, 10, 2, 0) := ⟨zt1 (List.mem_of_getElem? (i := 177) rfl), by decide +kernel, by decide +kernel, by decide +kernel⟩
set_option maxRecDepth 100000 in
theorem zf_74 : zFok (9, 28, 10, 3, 0) := ⟨zt1 (List.mem_of_getElem? (i := 178) rfl), by decide +kernel, by decide +kernel, by decide +kernel⟩
set_option maxRecDepth 100000 in
theorem zf_75 : zFok (10, 11, 11, 0, 2) := ⟨zt1 (List.mem_of_getElem? (i := 87) rfl), by decide +kernel, by decide +kernel, by decide +kernel⟩
set_option maxRecDepth 100000 in
theorem zf_76 : zFok (10, 15, 11, 1, 2) := ⟨zt1 (List.mem_of_getElem? (i := 88) rfl), by decide +kernel, by decide +kernel, by decide +kernel⟩
set_option maxRecDepth 100000 in
theorem zf_77 : zFok (10, 19, 11, 7, 0) := ⟨zt1 (List.mem_of_getElem? (i := 94) rfl), by decide +kernel, by decide +kernel, by decide +kernel⟩
set_option maxRecDepth 100000 in
theorem zf_78 : zFok (10, 23, 11, 9, 0) := ⟨zt1 (List.mem_of_getElem? (i := 96) rfl), by decide +kernel, by decide +kernel, by decide +kernel⟩
set_option maxRecDepth 100000 in
theorem zf_79 : zFok (10, 41, 11, 8, 0) := ⟨zt1 (List.mem_of_getElem? (i := 95) rfl), by decide +kernel, by decide +kernel, by decide +kernel⟩
set_option maxRecDepth 100000 in
theorem zf_80 : zFok (10, 44, 11, 5, 0) := ⟨zt1 (List.mem_of_getElem? (i := 92) rfl), by decide +kernel, by decide +kernel, by decide +kernel⟩
set_option maxRecDepth 100000 in
theorem zf_81 : zFok (10, 53, 11, 2, 0) := ⟨zt1 (List.mem_of_getElem? (i := 89) rfl), by decide +kernel, by decide +kernel, by decide +kernel⟩
set_option maxRecDepth 100000 in
theorem zf_82 : zFok (10, 55, 11, 3, 0) := ⟨zt1 (List.mem_of_getElem? (i := 90) rfl), by decide +kernel, by decide +kernel, by decide +kernel⟩
set_option maxRecDepth 100000 in
theorem zf_83 : zFok (10, 58, 11, 4, 0) := ⟨zt1 (List.mem_of_getElem? (i := 91) rfl), by decide +kernel, by decide +kernel, by decide +kernel⟩
set_option maxRecDepth 100000 in
theorem zf_84 : zFok (10, 68, 11, 6, 0) := ⟨zt1 (List.mem_of_getElem? (i := 93) rfl), by decide +kernel, by decide +kernel, by decide +kernel⟩
set_option maxRecDepth 100000 in
theorem zf_85 : zFok (11, 9, 12, 0, 2) := ⟨zt2 (List.mem_of_getElem? (i := 162) rfl), by decide +kernel, by decide +kernel, by decide +kernel⟩
set_option maxRecDepth 100000 in
theorem zf_86 : zFok (11, 16, 12, 2, 2) := ⟨zt2 (List.mem_of_getElem? (i := 164) rfl), by decide +kernel, by decide +kernel, by decide +kernel⟩
set_option maxRecDepth 100000 in
theorem zf_87 : zFok (11, 25, 12, 3, 2) := ⟨zt2 (List.mem_of_getElem? (i := 165) rfl), by decide +kernel, by decide +kernel, by decide +kernel⟩
set_option maxRecDepth 100000 in
theorem zf_88 : zFok (11, 32, 12, 4, 2) := ⟨zt2 (List.mem_of_getElem? (i := 166) rfl), by decide +kernel, by decide +kernel, by decide +kernel⟩
set_option maxRecDepth 100000 in
theorem zf_89 : zFok (11, 39, 12, 5, 2) := ⟨zt2 (List.mem_of_getElem? (i := 167) rfl), by decide +kernel, by decide +kernel, by decide +kernel⟩
set_option maxRecDepth 100000 in
theorem zf_90 : zFok (11, 43, 12, 6, 2) := ⟨zt2 (List.mem_of_getElem? (i := 168) rfl), by decide +kernel, by decide +kernel, by decide +kernel⟩
set_option maxRecDepth 100000 in
theorem zf_91 : zFok (11, 46, 12, 8, 0) := ⟨zt2 (List.mem_of_getElem? (i := 170) rfl), by decide +kernel, by decide +kernel, by decide +kernel⟩
set_option maxRecDepth 100000 in
theorem zf_92 : zFok (11, 52, 12, 9, 2) := ⟨zt2 (List.mem_of_getElem? (i := 171) rfl), by decide +kernel, by decide +kernel, by decide +kernel⟩
set_option maxRecDepth 100000 in
theorem zf_93 : zFok (11, 59, 12, 13, 2) := ⟨zt2 (List.mem_of_getElem? (i := 175) rfl), by decide +kernel, by decide +kernel, by decide +kernel⟩
set_option maxRecDepth 100000 in
theorem zf_94 : zFok (11, 66, 12, 14, 2) := ⟨zt2 (List.mem_of_getElem? (i := 176) rfl), by decide +kernel, by decide +kernel, by decide +kernel⟩
set_option maxRecDepth 100000 in
theorem zf_95 : zFok (11, 70, 12, 15, 2) := ⟨zt2 (List.mem_of_getElem? (i := 177) rfl), by decide +kernel, by decide +kernel, by decide +kernel⟩
set_option maxRecDepth 100000 in
theorem zf_96 : zFok (11, 74, 12, 16, 2) := ⟨zt2 (List.mem_of_getElem? (i := 178) rfl), by decide +kernel, by decide +kernel, by decide +kernel⟩
set_option maxRecDepth 100000 in
theorem zf_97 : zFok (11, 77, 12, 17, 2) := ⟨zt2 (List.mem_of_getElem? (i := 179) rfl), by decide +kernel, by decide +kernel, by decide +kernel⟩
set_option maxRecDepth 100000 in
theorem zf_98 : zFok (11, 80, 12, 18, 2) := ⟨zt2 (List.mem_of_getElem? (i := 180) rfl), by decide +kernel, by decide +kernel, by decide +kernel⟩
set_option maxRecDepth 100000 in
theorem zf_99 : zFok (11, 84, 12, 1, 0) := ⟨zt2 (List.mem_of_getElem? (i := 163) rfl), by decide +kernel, by decide +kernel, by decide +kernel⟩
set_option maxRecDepth 100000 in
theorem zf_100 : zFok (11, 106, 12, 10, 0) := ⟨zt2 (List.mem_of_getElem? (i := 172) rfl), by decide +kernel, by decide +kernel, by decide +kernel⟩
set_option maxRecDepth 100000 in
theorem zf_101 : zFok (11, 109, 12, 11, 0) := ⟨zt2 (List.mem_of_getElem? (i := 173) rfl), by decide +kernel, by decide +kernel, by decide +kernel⟩
set_option maxRecDepth 100000 in
theorem zf_102 : zFok (11, 118, 12, 7, 0) := ⟨zt2 (List.mem_of_getElem? (i := 169) rfl), by decide +kernel, by decide +kernel, by decide +kernel⟩
set_option maxRecDepth 100000 in
theorem zf_103 : zFok (11, 122, 1, 5, 0) := ⟨zt2 (List.mem_of_getElem? (i := 38) rfl), by decide +kernel, by decide +kernel, by decide +kernel⟩
set_option maxRecDepth 100000 in
theorem zf_104 : zFok (11, 125, 1, 6, 0) := ⟨zt2 (List.mem_of_getElem? (i := 42) rfl), by decide +kernel, by decide +kernel, by decide +kernel⟩
set_option maxRecDepth 100000 in
theorem zf_105 : zFok (11, 128, 1, 7, 0) := ⟨zt2 (List.mem_of_getElem? (i := 45) rfl), by decide +kernel, by decide +kernel, by decide +kernel⟩
set_option maxRecDepth 100000 in
theorem zf_106 : zFok (11, 134, 1, 8, 0) := ⟨zt2 (List.mem_of_getElem? (i := 48) rfl), by decide +kernel, by decide +kernel, by decide +kernel⟩
set_option maxRecDepth 100000 in
theorem zf_107 : zFok (11, 137, 1, 9, 0) := ⟨zt2 (List.mem_of_getElem? (i := 51) rfl), by decide +kernel, by decide +kernel, by decide +kernel⟩
set_option maxRecDepth 100000 in
theorem zf_108 : zFok (11, 140, 1, 10, 0) := ⟨zt2 (List.mem_of_getElem? (i := 54) rfl), by decide +kernel, by decide +kernel, by decide +kernel⟩
set_option maxRecDepth 100000 in
theorem zf_109 : zFok (11, 146, 1, 4, 2) := ⟨zt2 (List.mem_of_getElem? (i := 34) rfl), by decide +kernel, by decide +kernel, by decide +kernel⟩
set_option maxRecDepth 100000 in
theorem zf_110 : zFok (11, 173, 1, 0, 2) := ⟨zt2 (List.mem_of_getElem? (i := 22) rfl), by decide +kernel, by decide +kernel, by decide +kernel⟩
set_option maxRecDepth 100000 in
theorem zf_111 : zFok (11, 177, 4, 0, 0) := ⟨zt1 (List.mem_of_getElem? (i := 195) rfl), by decide +kernel, by decide +kernel, by decide +kernel⟩
set_option maxRecDepth 100000 in
theorem zf_112 : zFok (11, 185, 1, 1, 2) := ⟨zt2 (List.mem_of_getElem? (i := 25) rfl), by decide +kernel, by decide +kernel, by decide +kernel⟩
set_option maxRecDepth 100000 in
theorem zf_113 : zFok (11, 189, 9, 0, 0) := ⟨zt1 (List.mem_of_getElem? (i := 222) rfl), by decide +kernel, by decide +kernel, by decide +kernel⟩
set_option maxRecDepth 100000 in
theorem zf_114 : zFok (11, 195, 1, 2, 2) := ⟨zt2 (List.mem_of_getElem? (i := 28) rfl), by decide +kernel, by decide +kernel, by decide +kernel⟩
set_option maxRecDepth 100000 in
theorem zf_115 : zFok (11, 199, 6, 0, 0) := ⟨zt2 (List.mem_of_getElem? (i := 10) rfl), by decide +kernel, by decide +kernel, by decide +kernel⟩
set_option maxRecDepth 100000 in
theorem zf_116 : zFok (11, 215, 5, 0, 0) := ⟨zt2 (List.mem_of_getElem? (i := 125) rfl), by decide +kernel, by decide +kernel, by decide +kernel⟩
set_option maxRecDepth 100000 in
theorem zf_117 : zFok (11, 220, 9, 1, 2) := ⟨zt1 (List.mem_of_getElem? (i := 225) rfl), by decide +kernel, by decide +kernel, by decide +kernel⟩
set_option maxRecDepth 100000 in
theorem zf_118 : zFok (11, 227, 5, 2, 2) := ⟨zt2 (List.mem_of_getElem? (i := 131) rfl), by decide +kernel, by decide +kernel, by decide +kernel⟩
set_option maxRecDepth 100000 in
theorem zf_119 : zFok (11, 231, 4, 2, 2) := ⟨zt1 (List.mem_of_getElem? (i := 202) rfl), by decide +kernel, by decide +kernel, by decide +kernel⟩
set_option maxRecDepth 100000 in
theorem zf_120 : zFok (11, 234, 5, 1, 0) := ⟨zt2 (List.mem_of_getElem? (i := 128) rfl), by decide +kernel, by decide +kernel, by decide +kernel⟩
set_option maxRecDepth 100000 in
theorem zf_121 : zFok (11, 237, 5, 3, 0) := ⟨zt2 (List.mem_of_getElem? (i := 133) rfl), by decide +kernel, by decide +kernel, by decide +kernel⟩
set_option maxRecDepth 100000 in
theorem zf_122 : zFok (11, 240, 5, 4, 0) := ⟨zt2 (List.mem_of_getElem? (i := 135) rfl), by decide +kernel, by decide +kernel, by decide +kernel⟩
set_option maxRecDepth 100000 in
theorem zf_123 : zFok (11, 243, 5, 5, 0) := ⟨zt2 (List.mem_of_getElem? (i := 137) rfl), by decide +kernel, by decide +kernel, by decide +kernel⟩
set_option maxRecDepth 100000 in
theorem zf_124 : zFok (11, 246, 5, 6, 0) := ⟨zt2 (List.mem_of_getElem? (i := 139) rfl), by decide +kernel, by decide +kernel, by decide +kernel⟩
set_option maxRecDepth 100000 in
theorem zf_125 : zFok (11, 249, 5, 7, 0) := ⟨zt2 (List.mem_of_getElem? (i := 141) rfl), by decide +kernel, by decide +kernel, by decide +kernel⟩
set_option maxRecDepth 100000 in
theorem zf_126 : zFok (11, 268, 1, 3, 2) := ⟨zt2 (List.mem_of_getElem? (i := 31) rfl), by decide +kernel, by decide +kernel, by decide +kernel⟩
set_option maxRecDepth 100000 in
theorem zf_127 : zFok (11, 275, 9, 2, 0) := ⟨zt1 (List.mem_of_getElem? (i := 227) rfl), by decide +kernel, by decide +kernel, by decide +kernel⟩
set_option maxRecDepth 100000 in
theorem zf_128 : zFok (11, 288, 8, 0, 2) := ⟨zt2 (List.mem_of_getElem? (i := 87) rfl), by decide +kernel, by decide +kernel, by decide +kernel⟩
set_option maxRecDepth 100000 in
theorem zf_129 : zFok (11, 296, 8, 1, 2) := ⟨zt2 (List.mem_of_getElem? (i := 89) rfl), by decide +kernel, by decide +kernel, by decide +kernel⟩
set_option maxRecDepth 100000 in
theorem zf_130 : zFok (11, 343, 9, 4, 0) := ⟨zt1 (List.mem_of_getElem? (i := 231) rfl), by decide +kernel, by decide +kernel, by decide +kernel⟩
set_option maxRecDepth 100000 in
theorem zf_131 : zFok (11, 375, 4, 1, 0) := ⟨zt1 (List.mem_of_getElem? (i := 198) rfl), by decide +kernel, by decide +kernel, by decide +kernel⟩
set_option maxRecDepth 100000 in
theorem zf_132 : zFok (11, 419, 6, 1, 2) := ⟨zt2 (List.mem_of_getElem? (i := 13) rfl), by decide +kernel, by decide +kernel, by decide +kernel⟩
set_option maxRecDepth 100000 in
theorem zf_133 : zFok (11, 451, 9, 3, 0) := ⟨zt1 (List.mem_of_getElem? (i := 229) rfl), by decide +kernel, by decide +kernel, by decide +kernel⟩
set_option maxRecDepth 100000 in
theorem zf_134 : zFok (11, 456, 12, 12, 1) := ⟨zt2 (List.mem_of_getElem? (i := 174) rfl), by decide +kernel, by decide +kernel, by decide +kernel⟩
set_option maxRecDepth 100000 in
theorem zf_135 : zFok (11, 464, 4, 3, 0) := ⟨zt1 (List.mem_of_getElem? (i := 205) rfl), by decide +kernel, by decide +kernel, by decide +kernel⟩
set_option maxRecDepth 100000 in
theorem zf_136 : zFok (12, 7, 13, 0, 2) := ⟨zt6 (List.mem_of_getElem? (i := 47) rfl), by decide +kernel, by decide +kernel, by decide +kernel⟩
set_option maxRecDepth 100000 in
theorem zf_137 : zFok (12, 13, 13, 8, 0) := ⟨zt6 (List.mem_of_getElem? (i := 55) rfl), by decide +kernel, by decide +kernel, by decide +kernel⟩
set_option maxRecDepth 100000 in
theorem zf_138 : zFok (12, 17, 13, 10, 2) := ⟨zt6 (List.mem_of_getElem? (i := 57) rfl), by decide +kernel, by decide +kernel, by decide +kernel⟩
set_option maxRecDepth 100000 in
theorem zf_139 : zFok (12, 21, 13, 11, 2) := ⟨zt6 (List.mem_of_getElem? (i := 58) rfl), by decide +kernel, by decide +kernel, by decide +kernel⟩
set_option maxRecDepth 100000 in
theorem zf_140 : zFok (12, 24, 13, 12, 2) := ⟨zt6 (List.mem_of_getElem? (i := 59) rfl), by decide +kernel, by decide +kernel, by decide +kernel⟩
set_option maxRecDepth 100000 in
theorem zf_141 : zFok (12, 27, 13, 13, 2) := ⟨zt6 (List.mem_of_getElem? (i := 60) rfl), by decide +kernel, by decide +kernel, by decide +kernel⟩
set_option maxRecDepth 100000 in
theorem zf_142 : zFok (12, 30, 13, 14, 2) := ⟨zt6 (List.mem_of_getElem? (i := 61) rfl), by decide +kernel, by decide +kernel, by decide +kernel⟩
set_option maxRecDepth 100000 in
theorem zf_143 : zFok (12, 33, 13, 15, 2) := ⟨zt6 (List.mem_of_getElem? (i := 62) rfl), by decide +kernel, by decide +kernel, by decide +kernel⟩
set_option maxRecDepth 100000 in
theorem zf_144 : zFok (12, 36, 13, 16, 2) := ⟨zt6 (List.mem_of_getElem? (i := 63) rfl), by decide +kernel, by decide +kernel, by decide +kernel⟩
set_option maxRecDepth 100000 in
theorem zf_145 : zFok (12, 39, 13, 17, 2) := ⟨zt6 (List.mem_of_getElem? (i := 64) rfl), by decide +kernel, by decide +kernel, by decide +kernel⟩
set_option maxRecDepth 100000 in
theorem zf_146 : zFok (12, 42, 13, 18, 2) := ⟨zt6 (List.mem_of_getElem? (i := 65) rfl), by decide +kernel, by decide +kernel, by decide +kernel⟩
set_option maxRecDepth 100000 in
theorem zf_147 : zFok (12, 45, 13, 19, 2) := ⟨zt6 (List.mem_of_getElem? (i := 66) rfl), by decide +kernel, by decide +kernel, by decide +kernel⟩
set_option maxRecDepth 100000 in
theorem zf_148 : zFok (12, 48, 13, 20, 2) := ⟨zt6 (List.mem_of_getElem? (i := 67) rfl), by decide +kernel, by decide +kernel, by decide +kernel⟩
set_option maxRecDepth 100000 in
theorem zf_149 : zFok (12, 51, 13, 21, 2) := ⟨zt6 (List.mem_of_getElem? (i := 68) rfl), by decide +kernel, by decide +kernel, by decide +kernel⟩
set_option maxRecDepth 100000 in
theorem zf_150 : zFok (12, 54, 13, 22, 2) := ⟨zt6 (List.mem_of_getElem? (i := 69) rfl), by decide +kernel, by decide +kernel, by decide +kernel⟩
set_option maxRecDepth 100000 in
theorem zf_151 : zFok (12, 57, 13, 23, 2) := ⟨zt6 (List.mem_of_getElem? (i := 70) rfl), by decide +kernel, by decide +kernel, by decide +kernel⟩
set_option maxRecDepth 100000 in
theorem zf_152 : zFok (12, 60, 13, 24, 2) := ⟨zt6 (List.mem_of_getElem? (i := 71) rfl), by decide +kernel, by decide +kernel, by decide +kernel⟩
set_option maxRecDepth 100000 in
theorem zf_153 : zFok (12, 63, 13, 25, 2) := ⟨zt6 (List.mem_of_getElem? (i := 72) rfl), by decide +kernel, by decide +kernel, by decide +kernel⟩
set_option maxRecDepth 100000 in
theorem zf_154 : zFok (12, 66, 13, 26, 2) := ⟨zt6 (List.mem_of_getElem? (i := 73) rfl), by decide +kernel, by decide +kernel, by decide +kernel⟩
set_option maxRecDepth 100000 in
theorem zf_155 : zFok (12, 69, 13, 27, 2) := ⟨zt6 (List.mem_of_getElem? (i := 74) rfl), by decide +kernel, by decide +kernel, by decide +kernel⟩
set_option maxRecDepth 100000 in
theorem zf_156 : zFok (12, 72, 13, 28, 2) := ⟨zt6 (List.mem_of_getElem? (i := 75) rfl), by decide +kernel, by decide +kernel, by decide +kernel⟩
set_option maxRecDepth 100000 in
theorem zf_157 : zFok (12, 75, 13, 29, 2) := ⟨zt6 (List.mem_of_getElem? (i := 76) rfl), by decide +kernel, by decide +kernel, by decide +kernel⟩
set_option maxRecDepth 100000 in
theorem zf_158 : zFok (12, 78, 13, 30, 2) := ⟨zt6 (List.mem_of_getElem? (i := 77) rfl), by decide +kernel, by decide +kernel, by decide +kernel⟩
set_option maxRecDepth 100000 in
theorem zf_159 : zFok (12, 81, 13, 31, 2) := ⟨zt6 (List.mem_of_getElem? (i := 78) rfl), by decide +kernel, by decide +kernel, by decide +kernel⟩
set_option maxRecDepth 100000 in
theorem zf_160 : zFok (12, 84, 13, 32, 2) := ⟨zt6 (List.mem_of_getElem? (i := 79) rfl), by decide +kernel, by decide +kernel, by decide +kernel⟩
set_option maxRecDepth 100000 in
theorem zf_161 : zFok (12, 87, 13, 33, 2) := ⟨zt6 (List.mem_of_getElem? (i := 80) rfl), by decide +kernel, by decide +kernel, by decide +kernel⟩
set_option maxRecDepth 100000 in
theorem zf_162 : zFok (12, 90, 13, 34, 2) := ⟨zt6 (List.mem_of_getElem? (i := 81) rfl), by decide +kernel, by decide +kernel, by decide +kernel⟩
set_option maxRecDepth 100000 in
theorem zf_163 : zFok (12, 93, 13, 35, 2) := ⟨zt6 (List.mem_of_getElem? (i := 82) rfl), by decide +kernel, by decide +kernel, by decide +kernel⟩
set_option maxRecDepth 100000 in
theorem zf_164 : zFok (12, 96, 13, 36, 2) := ⟨zt6 (List.mem_of_getElem? (i := 83) rfl), by decide +kernel, by decide +kernel, by decide +kernel⟩
set_option maxRecDepth 100000 in
theorem zf_165 : zFok (12, 99, 13, 37, 2) := ⟨zt6 (List.mem_of_getElem? (i := 84) rfl), by decide +kernel, by decide +kernel, by decide +kernel⟩
set_option maxRecDepth 100000 in
theorem zf_166 : zFok (12, 102, 13, 38, 2) := ⟨zt6 (List.mem_of_getElem? (i := 85) rfl), by decide +kernel, by decide +kernel, by decide +kernel⟩
set_option maxRecDepth 100000 in
theorem zf_167 : zFok (12, 105, 13, 39, 2) := ⟨zt6 (List.mem_of_getElem? (i := 86) rfl), by decide +kernel, by decide +kernel, by decide +kernel⟩
set_option maxRecDepth 100000 in
theorem zf_168 : zFok (12, 108, 13, 40, 2) := ⟨zt6 (List.mem_of_getElem? (i := 87) rfl), by decide +kernel, by decide +kernel, by decide +kernel⟩
set_option maxRecDepth 100000 in
theorem zf_169 : zFok (12, 111, 13, 41, 2) := ⟨zt6 (List.mem_of_getElem? (i := 88) rfl), by decide +kernel, by decide +kernel, by decide +kernel⟩
set_option maxRecDepth 100000 in
theorem zf_170 : zFok (12, 114, 13, 42, 2) := ⟨zt6 (List.mem_of_getElem? (i := 89) rfl), by decide +kernel, by decide +kernel, by decide +kernel⟩
set_option maxRecDepth 100000 in
theorem zf_171 : zFok (12, 117, 13, 43, 2) := ⟨zt6 (List.mem_of_getElem? (i := 90) rfl), by decide +kernel, by decide +kernel, by decide +kernel⟩
set_option maxRecDepth 100000 in
theorem zf_172 : zFok (12, 120, 13, 44, 2) := ⟨zt6 (List.mem_of_getElem? (i := 91) rfl), by decide +kernel, by decide +kernel, by decide +kernel⟩
set_option maxRecDepth 100000 in
theorem zf_173 : zFok (12, 123, 13, 46, 2) := ⟨zt6 (List.mem_of_getElem? (i := 93) rfl), by decide +kernel, by decide +kernel, by decide +kernel⟩
set_option maxRecDepth 100000 in
theorem zf_174 : zFok (12, 127, 13, 47, 2) := ⟨zt6 (List.mem_of_getElem? (i := 94) rfl), by decide +kernel, by decide +kernel, by decide +kernel⟩
set_option maxRecDepth 100000 in
theorem zf_175 : zFok (12, 130, 13, 48, 2) := ⟨zt6 (List.mem_of_getElem? (i := 95) rfl), by decide +kernel, by decide +kernel, by decide +kernel⟩
set_option maxRecDepth 100000 in
theorem zf_176 : zFok (12, 133, 13, 49, 2) := ⟨zt6 (List.mem_of_getElem? (i := 96) rfl), by decide +kernel, by decide +kernel, by decide +kernel⟩
set_option maxRecDepth 100000 in
theorem zf_177 : zFok (12, 136, 13, 50, 2) := ⟨zt6 (List.mem_of_getElem? (i := 97) rfl), by decide +kernel, by decide +kernel, by decide +kernel⟩
set_option maxRecDepth 100000 in
theorem zf_178 : zFok (12, 139, 13, 51, 2) := ⟨zt6 (List.mem_of_getElem? (i := 98) rfl), by decide +kernel, by decide +kernel, by decide +kernel⟩
set_option maxRecDepth 100000 in
theorem zf_179 : zFok (12, 142, 13, 52, 2) := ⟨zt6 (List.mem_of_getElem? (i := 99) rfl), by decide +kernel, by decide +kernel, by decide +kernel⟩
set_option maxRecDepth 100000 in
theorem zf_180 : zFok (12, 145, 13, 53, 2) := ⟨zt6 (List.mem_of_getElem? (i := 100) rfl), by decide +kernel, by decide +kernel, by decide +kernel⟩
set_option maxRecDepth 100000 in
theorem zf_181 : zFok (12, 148, 13, 54, 2) := ⟨zt6 (List.mem_of_getElem? (i := 101) rfl), by decide +kernel, by decide +kernel, by decide +kernel⟩
set_option maxRecDepth 100000 in
theorem zf_182 : zFok (12, 151, 13, 55, 2) := ⟨zt6 (List.mem_of_getElem? (i := 102) rfl), by decide +kernel, by decide +kernel, by decide +kernel⟩
set_option maxRecDepth 100000 in
theorem zf_183 : zFok (12, 154, 13, 56, 2) := ⟨zt6 (List.mem_of_getElem? (i := 103) rfl), by decide +kernel, by decide +kernel, by decide +kernel⟩
set_option maxRecDepth 100000 in
theorem zf_184 : zFok (12, 157, 13, 57, 2) := ⟨zt6 (List.mem_of_getElem? (i := 104) rfl), by decide +kernel, by decide +kernel, by decide +kernel⟩
set_option maxRecDepth 100000 in
theorem zf_185 : zFok (12, 160, 13, 59, 2) := ⟨zt6 (List.mem_of_getElem? (i := 106) rfl), by decide +kernel, by decide +kernel, by decide +kernel⟩
set_option maxRecDepth 100000 in
theorem zf_186 : zFok (12, 163, 13, 61, 2) := ⟨zt6 (List.mem_of_getElem? (i := 108) rfl), by decide +kernel, by decide +kernel, by decide +kernel⟩
set_option maxRecDepth 100000 in
theorem zf_187 : zFok (12, 166, 13, 64, 2) := ⟨zt6 (List.mem_of_getElem? (i := 111) rfl), by decide +kernel, by decide +kernel, by decide +kernel⟩
set_option maxRecDepth 100000 in
theorem zf_188 : zFok (12, 170, 13, 65, 2) := ⟨zt6 (List.mem_of_getElem? (i := 112) rfl), by decide +kernel, by decide +kernel, by decide +kernel⟩
set_option maxRecDepth 100000 in
theorem zf_189 : zFok (12, 173, 13, 66, 2) := ⟨zt6 (List.mem_of_getElem? (i := 113) rfl), by decide +kernel, by decide +kernel, by decide +kernel⟩
set_option maxRecDepth 100000 in
theorem zf_190 : zFok (12, 176, 13, 67, 2) := ⟨zt6 (List.mem_of_getElem? (i := 114) rfl), by decide +kernel, by decide +kernel, by decide +kernel⟩
set_option maxRecDepth 100000 in
theorem zf_191 : zFok (12, 179, 13, 68, 2) := ⟨zt6 (List.mem_of_getElem? (i := 115) rfl), by decide +kernel, by decide +kernel, by decide +kernel⟩
set_option maxRecDepth 100000 in
theorem zf_192 : zFok (12, 182, 13, 71, 2) := ⟨zt6 (List.mem_of_getElem? (i := 118) rfl), by decide +kernel, by decide +kernel, by decide +kernel⟩
set_option maxRecDepth 100000 in
theorem zf_193 : zFok (12, 185, 13, 72, 2) := ⟨zt6 (List.mem_of_getElem? (i := 119) rfl), by decide +kernel, by decide +kernel, by decide +kernel⟩
set_option maxRecDepth 100000 in
theorem zf_194 : zFok (12, 188, 13, 73, 2) := ⟨zt6 (List.mem_of_getElem? (i := 120) rfl), by decide +kernel, by decide +kernel, by decide +kernel⟩
set_option maxRecDepth 100000 in
theorem zf_195 : zFok (12, 191, 13, 74, 2) := ⟨zt6 (List.mem_of_getElem? (i := 121) rfl), by decide +kernel, by decide +kernel, by decide +kernel⟩
set_option maxRecDepth 100000 in
theorem zf_196 : zFok (12, 194, 13, 75, 2) := ⟨zt6 (List.mem_of_getElem? (i := 122) rfl), by decide +kernel, by decide +kernel, by decide +kernel⟩
set_option maxRecDepth 100000 in
theorem zf_197 : zFok (12, 197, 13, 76, 2) := ⟨zt6 (List.mem_of_getElem? (i := 123) rfl), by decide +kernel, by decide +kernel, by decide +kernel⟩
set_option maxRecDepth 100000 in
theorem zf_198 : zFok (12, 200, 13, 77, 2) := ⟨zt6 (List.mem_of_getElem? (i := 124) rfl), by decide +kernel, by decide +kernel, by decide +kernel⟩
set_option maxRecDepth 100000 in
theorem zf_199 : zFok (12, 203, 13, 78, 2) := ⟨zt6 (List.mem_of_getElem? (i := 125) rfl), by decide +kernel, by decide +kernel, by decide +kernel⟩
set_option maxRecDepth 100000 in
theorem zf_200 : zFok (12, 206, 13, 79, 2) := ⟨zt6 (List.mem_of_getElem? (i := 126) rfl), by decide +kernel, by decide +kernel, by decide +kernel⟩
set_option maxRecDepth 100000 in
theorem zf_201 : zFok (12, 209, 13, 80, 2) := ⟨zt6 (List.mem_of_getElem? (i := 127) rfl), by decide +kernel, by decide +kernel, by decide +kernel⟩
set_option maxRecDepth 100000 in
theorem zf_202 : zFok (12, 212, 13, 81, 2) := ⟨zt6 (List.mem_of_getElem? (i := 128) rfl), by decide +kernel, by decide +kernel, by decide +kernel⟩
set_option maxRecDepth 100000 in
theorem zf_203 : zFok (12, 215, 13, 85, 2) := ⟨zt6 (List.mem_of_getElem? (i := 132) rfl), by decide +kernel, by decide +kernel, by decide +kernel⟩
set_option maxRecDepth 100000 in
theorem zf_204 : zFok (12, 218, 13, 86, 2) := ⟨zt6 (List.mem_of_getElem? (i := 133) rfl), by decide +kernel, by decide +kernel, by decide +kernel⟩
set_option maxRecDepth 100000 in
theorem zf_205 : zFok (12, 221, 13, 87, 2) := ⟨zt6 (List.mem_of_getElem? (i := 134) rfl), by decide +kernel, by decide +kernel, by decide +kernel⟩
set_option maxRecDepth 100000 in
theorem zf_206 : zFok (12, 224, 13, 89, 2) := ⟨zt6 (List.mem_of_getElem? (i := 136) rfl), by decide +kernel, by decide +kernel, by decide +kernel⟩
set_option maxRecDepth 100000 in
theorem zf_207 : zFok (12, 227, 13, 90, 2) := ⟨zt6 (List.mem_of_getElem? (i := 137) rfl), by decide +kernel, by decide +kernel, by decide +kernel⟩
set_option maxRecDepth 100000 in
theorem zf_208 : zFok (12, 230, 13, 91, 2) := ⟨zt6 (List.mem_of_getElem? (i := 138) rfl), by decide +kernel, by decide +kernel, by decide +kernel⟩
set_option maxRecDepth 100000 in
theorem zf_209 : zFok (12, 233, 13, 92, 2) := ⟨zt6 (List.mem_of_getElem? (i := 139) rfl), by decide +kernel, by decide +kernel, by decide +kernel⟩
set_option maxRecDepth 100000 in
theorem zf_210 : zFok (12, 236, 13, 93, 2) := ⟨zt6 (List.mem_of_getElem? (i := 140) rfl), by decide +kernel, by decide +kernel, by decide +kernel⟩
set_option maxRecDepth 100000 in
theorem zf_211 : zFok (12, 239, 13, 94, 2) := ⟨zt6 (List.mem_of_getElem? (i := 141) rfl), by decide +kernel, by decide +kernel, by decide +kernel⟩
set_option maxRecDepth 100000 in
theorem zf_212 : zFok (12, 242, 13, 96, 2) := ⟨zt6 (List.mem_of_getElem? (i := 143) rfl), by decide +kernel, by decide +kernel, by decide +kernel⟩
set_option maxRecDepth 100000 in
theorem zf_213 : zFok (12, 245, 13, 1, 0) := ⟨zt6 (List.mem_of_getElem? (i := 48) rfl), by decide +kernel, by decide +kernel, by decide +kernel⟩
set_option maxRecDepth 100000 in
theorem zf_214 : zFok (12, 248, 13, 5, 0) := ⟨zt6 (List.mem_of_getElem? (i := 52) rfl), by decide +kernel, by decide +kernel, by decide +kernel⟩
set_option maxRecDepth 100000 in
theorem zf_215 : zFok (12, 251, 13, 6, 0) := ⟨zt6 (List.mem_of_getElem? (i := 53) rfl), by decide +kernel, by decide +kernel, by decide +kernel⟩
set_option maxRecDepth 100000 in
theorem zf_216 : zFok (12, 254, 13, 2, 0) := ⟨zt6 (List.mem_of_getElem? (i := 49) rfl), by decide +kernel, by decide +kernel, by decide +kernel⟩
set_option maxRecDepth 100000 in
theorem zf_217 : zFok (12, 257, 13, 3, 0) := ⟨zt6 (List.mem_of_getElem? (i := 50) rfl), by decide +kernel, by decide +kernel, by decide +kernel⟩
set_option maxRecDepth 100000 in
theorem zf_218 : zFok (12, 268, 13, 4, 0) := ⟨zt6 (List.mem_of_getElem? (i := 51) rfl), by decide +kernel, by decide +kernel, by decide +kernel⟩
set_option maxRecDepth 100000 in
theorem zf_219 : zFok (12, 288, 13, 9, 0) := ⟨zt6 (List.mem_of_getElem? (i := 56) rfl), by decide +kernel, by decide +kernel, by decide +kernel⟩
set_option maxRecDepth 100000 in
theorem zf_220 : zFok (12, 299, 13, 45, 0) := ⟨zt6 (List.mem_of_getElem? (i := 92) rfl), by decide +kernel, by decide +kernel, by decide +kernel⟩
set_option maxRecDepth 100000 in
theorem zf_221 : zFok (12, 306, 13, 58, 0) := ⟨zt6 (List.mem_of_getElem? (i := 105) rfl), by decide +kernel, by decide +kernel, by decide +kernel⟩
set_option maxRecDepth 100000 in
theorem zf_222 : zFok (12, 309, 13, 60, 0) := ⟨zt6 (List.mem_of_getElem? (i := 107) rfl), by decide +kernel, by decide +kernel, by decide +kernel⟩
set_option maxRecDepth 100000 in
theorem zf_223 : zFok (12, 365, 13, 7, 0) := ⟨zt6 (List.mem_of_getElem? (i := 54) rfl), by decide +kernel, by decide +kernel, by decide +kernel⟩
set_option maxRecDepth 100000 in
theorem zf_224 : zFok (12, 371, 13, 70, 0) := ⟨zt6 (List.mem_of_getElem? (i := 117) rfl), by decide +kernel, by decide +kernel, by decide +kernel⟩
set_option maxRecDepth 100000 in
theorem zf_225 : zFok (12, 374, 13, 82, 0) := ⟨zt6 (List.mem_of_getElem? (i := 129) rfl), by decide +kernel, by decide +kernel, by decide +kernel⟩
set_option maxRecDepth 100000 in
theorem zf_226 : zFok (12, 377, 13, 83, 0) := ⟨zt6 (List.mem_of_getElem? (i := 130) rfl), by decide +kernel, by decide +kernel, by decide +kernel⟩
set_option maxRecDepth 100000 in
theorem zf_227 : zFok (12, 380, 13, 84, 0) := ⟨zt6 (List.mem_of_getElem? (i := 131) rfl), by decide +kernel, by decide +kernel, by decide +kernel⟩
set_option maxRecDepth 100000 in
theorem zf_228 : zFok (12, 383, 13, 63, 0) := ⟨zt6 (List.mem_of_getElem? (i := 110) rfl), by decide +kernel, by decide +kernel, by decide +kernel⟩
set_option maxRecDepth 100000 in
theorem zf_229 : zFok (12, 386, 13, 62, 0) := ⟨zt6 (List.mem_of_getElem? (i := 109) rfl), by decide +kernel, by decide +kernel, by decide +kernel⟩
set_option maxRecDepth 100000 in
theorem zf_230 : zFok (12, 392, 13, 69, 0) := ⟨zt6 (List.mem_of_getElem? (i := 116) rfl), by decide +kernel, by decide +kernel, by decide +kernel⟩
set_option maxRecDepth 100000 in
theorem zf_231 : zFok (12, 535, 13, 88, 0) := ⟨zt6 (List.mem_of_getElem? (i := 135) rfl), by decide +kernel, by decide +kernel, by decide +kernel⟩
set_option maxRecDepth 100000 in
theorem zf_232 : zFok (12, 636, 13, 95, 1) := ⟨zt6 (List.mem_of_getElem? (i := 142) rfl), by decide +kernel, by decide +kernel, by decide +kernel⟩
set_option maxRecDepth 100000 in
theorem zf_233 : zFok (12, 653, 13, 97, 0) := ⟨zt6 (List.mem_of_getElem? (i := 144) rfl), by decide +kernel, by decide +kernel, by decide +kernel⟩
set_option maxRecDepth 100000 in
theorem zf_234 : zFok (13, 9, 20, 0, 2) := ⟨zt9 (List.mem_of_getElem? (i := 172) rfl), by decide +kernel, by decide +kernel, by decide +kernel⟩
set_option maxRecDepth 100000 in
theorem zf_235 : zFok (13, 15, 20, 1, 0) := ⟨zt9 (List.mem_of_getElem? (i := 173) rfl), by decide +kernel, by decide +kernel, by decide +kernel⟩
set_option maxRecDepth 100000 in
theorem zFL_ok : ∀ e ∈ zFLT, zFok e := List.forall_mem_cons.mpr ⟨zf_0, List.forall_mem_cons.mpr ⟨zf_1, List.forall_mem_cons.mpr ⟨zf_2, List.forall_mem_cons.mpr ⟨zf_3, List.forall_mem_cons.mpr ⟨zf_4, List.forall_mem_cons.mpr ⟨zf_5, List.forall_mem_cons.mpr ⟨zf_6, List.forall_mem_cons.mpr ⟨zf_7, List.forall_mem_cons.mpr ⟨zf_8, List.forall_mem_cons.mpr ⟨zf_9, List.forall_mem_cons.mpr ⟨zf_10, List.forall_mem_cons.mpr ⟨zf_11, List.forall_mem_cons.mpr ⟨zf_12, List.forall_mem_cons.mpr ⟨zf_13, List.forall_mem_cons.mpr ⟨zf_14, List.forall_mem_cons.mpr ⟨zf_15, List.forall_mem_cons.mpr ⟨zf_16, List.forall_mem_cons.mpr ⟨zf_17, List.forall_mem_cons.mpr ⟨zf_18, List.forall_mem_cons.mpr ⟨zf_19, List.forall_mem_cons.mpr ⟨zf_20, List.forall_mem_cons.mpr ⟨zf_21, List.forall_mem_cons.mpr ⟨zf_22, List.forall_mem_cons.mpr ⟨zf_23, List.forall_mem_cons.mpr ⟨zf_24, List.forall_mem_cons.mpr ⟨zf_25, List.forall_mem_cons.mpr ⟨zf_26, List.forall_mem_cons.mpr ⟨zf_27, List.forall_mem_cons.mpr ⟨zf_28, List.forall_mem_cons.mpr ⟨zf_29, List.forall_mem_cons.mpr ⟨zf_30, List.forall_mem_cons.mpr ⟨zf_31, List.forall_mem_cons.mpr ⟨zf_32, List.forall_mem_cons.mpr ⟨zf_33, List.forall_mem_cons.mpr ⟨zf_34, List.forall_mem_cons.mpr ⟨zf_35, List.forall_mem_cons.mpr ⟨zf_36, List.forall_mem_cons.mpr ⟨zf_37, List.forall_mem_cons.mpr ⟨zf_38, List.forall_mem_cons.mpr ⟨zf_39, List.forall_mem_cons.mpr ⟨zf_40, List.forall_mem_cons.mpr ⟨zf_41, List.forall_mem_cons.mpr ⟨zf_42, List.forall_mem_cons.mpr ⟨zf_43, List.forall_mem_cons.mpr ⟨zf_44, List.forall_mem_cons.mpr ⟨zf_45, List.forall_mem_cons.mpr ⟨zf_46, List.forall_mem_cons.mpr ⟨zf_47, List.forall_mem_cons.mpr ⟨zf_48, List.forall_mem_cons.mpr ⟨zf_49, List.forall_mem_cons.mpr ⟨zf_50, List.forall_mem_cons.mpr ⟨zf_51, List.forall_mem_cons.mpr ⟨zf_52, List.forall_mem_cons.mpr ⟨zf_53, List.forall_mem_cons.mpr ⟨zf_54, List.forall_mem_cons.mpr ⟨zf_55, List.forall_mem_cons.mpr ⟨zf_56, List.forall_mem_cons.mpr ⟨zf_57, List.forall_mem_cons.mpr ⟨zf_58, List.forall_mem_cons.mpr ⟨zf_59, List.forall_mem_cons.mpr ⟨zf_60, List.forall_mem_cons.mpr ⟨zf_61, List.forall_mem_cons.mpr ⟨zf_62, List.forall_mem_cons.mpr ⟨zf_63, List.forall_mem_cons.mpr ⟨zf_64, List.forall_mem_cons.mpr ⟨zf_65, List.forall_mem_cons.mpr ⟨zf_66, List.forall_mem_cons.mpr ⟨zf_67, List.forall_mem_cons.mpr ⟨zf_68, List.forall_mem_cons.mpr ⟨zf_69, List.forall_mem_cons.mpr ⟨zf_70, List.forall_mem_cons.mpr ⟨zf_71, List.forall_mem_cons.mpr ⟨zf_72, List.forall_mem_cons.mpr ⟨zf_73, List.forall_mem_cons.mpr ⟨zf_74, List.forall_mem_cons.mpr ⟨zf_75, List.forall_mem_cons.mpr ⟨zf_76, List.forall_mem_cons.mpr ⟨zf_77, List.forall_mem_cons.mpr ⟨zf_78, List.forall_mem_cons.mpr ⟨zf_79, List.forall_mem_cons.mpr ⟨zf_80, List.forall_mem_cons.mpr ⟨zf_81, List.forall_mem_cons.mpr ⟨zf_82, List.forall_mem_cons.mpr ⟨zf_83, List.forall_mem_cons.mpr ⟨zf_84, List.forall_mem_cons.mpr ⟨zf_85, List.forall_mem_cons.mpr ⟨zf_86, List.forall_mem_cons.mpr ⟨zf_87, List.forall_mem_cons.mpr ⟨zf_88, List.forall_mem_cons.mpr ⟨zf_89, List.forall_mem_cons.mpr ⟨zf_90, List.forall_mem_cons.mpr ⟨zf_91, List.forall_mem_cons.mpr ⟨zf_92, List.forall_mem_cons.mpr ⟨zf_93, List.forall_mem_cons.mpr ⟨zf_94, List.forall_mem_cons.mpr ⟨zf_95, List.forall_mem_cons.mpr ⟨zf_96, List.forall_mem_cons.mpr ⟨zf_97, List.forall_mem_cons.mpr ⟨zf_98, List.forall_mem_cons.mpr ⟨zf_99, List.forall_mem_cons.mpr ⟨zf_100, List.forall_mem_cons.mpr ⟨zf_101, List.forall_mem_cons.mpr ⟨zf_102, List.forall_mem_cons.mpr ⟨zf_103, List.forall_mem_cons.mpr ⟨zf_104, List.forall_mem_cons.mpr ⟨zf_105, List.forall_mem_cons.mpr ⟨zf_106, List.forall_mem_cons.mpr ⟨zf_107, List.forall_mem_cons.mpr ⟨zf_108, List.forall_mem_cons.mpr ⟨zf_109, List.forall_mem_cons.mpr ⟨zf_110, List.forall_mem_cons.mpr ⟨zf_111, List.forall_mem_cons.mpr ⟨zf_112, List.forall_mem_cons.mpr ⟨zf_113, List.forall_mem_cons.mpr ⟨zf_114, List.forall_mem_cons.mpr ⟨zf_115, List.forall_mem_cons.mpr ⟨zf_116, List.forall_mem_cons.mpr ⟨zf_117, List.forall_mem_cons.mpr ⟨zf_118, List.forall_mem_cons.mpr ⟨zf_119, List.forall_mem_cons.mpr ⟨zf_120, List.forall_mem_cons.mpr ⟨zf_121, List.forall_mem_cons.mpr ⟨zf_122, List.forall_mem_cons.mpr ⟨zf_123, List.forall_mem_cons.mpr ⟨zf_124, List.forall_mem_cons.mpr ⟨zf_125, List.forall_mem_cons.mpr ⟨zf_126, List.forall_mem_cons.mpr ⟨zf_127, List.forall_mem_cons.mpr ⟨zf_128, List.forall_mem_cons.mpr ⟨zf_129, List.forall_mem_cons.mpr ⟨zf_130, List.forall_mem_cons.mpr ⟨zf_131, List.forall_mem_cons.mpr ⟨zf_132, List.forall_mem_cons.mpr ⟨zf_133, List.forall_mem_cons.mpr ⟨zf_134, List.forall_mem_cons.mpr ⟨zf_135, List.forall_mem_cons.mpr ⟨zf_136, List.forall_mem_cons.mpr ⟨zf_137, List.forall_mem_cons.mpr ⟨zf_138, List.forall_mem_cons.mpr ⟨zf_139, List.forall_mem_cons.mpr ⟨zf_140, List.forall_mem_cons.mpr ⟨zf_141, List.forall_mem_cons.mpr ⟨zf_142, List.forall_mem_cons.mpr ⟨zf_143, List.forall_mem_cons.mpr ⟨zf_144, List.forall_mem_cons.mpr ⟨zf_145, List.forall_mem_cons.mpr ⟨zf_146, List.forall_mem_cons.mpr ⟨zf_147, List.forall_mem_cons.mpr ⟨zf_148, List.forall_mem_cons.mpr ⟨zf_149, List.forall_mem_cons.mpr ⟨zf_150, List.forall_mem_cons.mpr ⟨zf_151, List.forall_mem_cons.mpr ⟨zf_152, List.forall_mem_cons.mpr ⟨zf_153, List.forall_mem_cons.mpr ⟨zf_154, List.forall_mem_cons.mpr ⟨zf_155, List.forall_mem_cons.mpr ⟨zf_156, List.forall_mem_cons.mpr ⟨zf_157, List.forall_mem_cons.mpr ⟨zf_158, List.forall_mem_cons.mpr ⟨zf_159, List.forall_mem_cons.mpr ⟨zf_160, List.forall_mem_cons.mpr ⟨zf_161, List.forall_mem_cons.mpr ⟨zf_162, List.forall_mem_cons.mpr ⟨zf_163, List.forall_mem_cons.mpr ⟨zf_164, List.forall_mem_cons.mpr ⟨zf_165, List.forall_mem_cons.mpr ⟨zf_166, List.forall_mem_cons.mpr ⟨zf_167, List.forall_mem_cons.mpr ⟨zf_168, List.forall_mem_cons.mpr ⟨zf_169, List.forall_mem_cons.mpr ⟨zf_170, List.forall_mem_cons.mpr ⟨zf_171, List.forall_mem_cons.mpr ⟨zf_172, List.forall_mem_cons.mpr ⟨zf_173, List.forall_mem_cons.mpr ⟨zf_174, List.forall_mem_cons.mpr ⟨zf_175, List.forall_mem_cons.mpr ⟨zf_176, List.forall_mem_cons.mpr ⟨zf_177, List.forall_mem_cons.mpr ⟨zf_178, List.forall_mem_cons.mpr ⟨zf_179, List.forall_mem_cons.mpr ⟨zf_180, List.forall_mem_cons.mpr ⟨zf_181, List.forall_mem_cons.mpr ⟨zf_182, List.forall_mem_cons.mpr ⟨zf_183, List.forall_mem_cons.mpr ⟨zf_184, List.forall_mem_cons.mpr ⟨zf_185, List.forall_mem_cons.mpr ⟨zf_186, List.forall_mem_cons.mpr ⟨zf_187, List.forall_mem_cons.mpr ⟨zf_188, List.forall_mem_cons.mpr ⟨zf_189, List.forall_mem_cons.mpr ⟨zf_190, List.forall_mem_cons.mpr ⟨zf_191, List.forall_mem_cons.mpr ⟨zf_192, List.forall_mem_cons.mpr ⟨zf_193, List.forall_mem_cons.mpr ⟨zf_194, List.forall_mem_cons.mpr ⟨zf_195, List.forall_mem_cons.mpr ⟨zf_196, List.forall_mem_cons.mpr ⟨zf_197, List.forall_mem_cons.mpr ⟨zf_198, List.forall_mem_cons.mpr ⟨zf_199, List.forall_mem_cons.mpr ⟨zf_200, List.forall_mem_cons.mpr ⟨zf_201, List.forall_mem_cons.mpr ⟨zf_202, List.forall_mem_cons.mpr ⟨zf_203, List.forall_mem_cons.mpr ⟨zf_204, List.forall_mem_cons.mpr ⟨zf_205, List.forall_mem_cons.mpr ⟨zf_206, List.forall_mem_cons.mpr ⟨zf_207, List.forall_mem_cons.mpr ⟨zf_208, List.forall_mem_cons.mpr ⟨zf_209, List.forall_mem_cons.mpr ⟨zf_210, List.forall_mem_cons.mpr ⟨zf_211, List.forall_mem_cons.mpr ⟨zf_212, List.forall_mem_cons.mpr ⟨zf_213, List.forall_mem_cons.mpr ⟨zf_214, List.forall_mem_cons.mpr ⟨zf_215, List.forall_mem_cons.mpr ⟨zf_216, List.forall_mem_cons.mpr ⟨zf_217, List.forall_mem_cons.mpr ⟨zf_218, List.forall_mem_cons.mpr ⟨zf_219, List.forall_mem_cons.mpr ⟨zf_220, List.forall_mem_cons.mpr ⟨zf_221, List.forall_mem_cons.mpr ⟨zf_222, List.forall_mem_cons.mpr ⟨zf_223, List.forall_mem_cons.mpr ⟨zf_224, List.forall_mem_cons.mpr ⟨zf_225, List.forall_mem_cons.mpr ⟨zf_226, List.forall_mem_cons.mpr ⟨zf_227, List.forall_mem_cons.mpr ⟨zf_228, List.forall_mem_cons.mpr ⟨zf_229, List.forall_mem_cons.mpr ⟨zf_230, List.forall_mem_cons.mpr ⟨zf_231, List.forall_mem_cons.mpr ⟨zf_232, List.forall_mem_cons.mpr ⟨zf_233, List.forall_mem_cons.mpr ⟨zf_234, List.forall_mem_cons.mpr ⟨zf_235, fun _ h => absurd h List.not_mem_nil⟩⟩⟩⟩⟩⟩⟩⟩⟩⟩⟩⟩⟩⟩⟩⟩⟩⟩⟩⟩⟩⟩⟩⟩⟩⟩⟩⟩⟩⟩⟩⟩⟩⟩⟩⟩⟩⟩⟩⟩⟩⟩⟩⟩⟩⟩⟩⟩⟩⟩⟩⟩⟩⟩⟩⟩⟩⟩⟩⟩⟩⟩⟩⟩⟩⟩⟩⟩⟩⟩⟩⟩⟩⟩⟩⟩⟩⟩⟩⟩⟩⟩⟩⟩⟩⟩⟩⟩⟩⟩⟩⟩⟩⟩⟩⟩⟩⟩⟩⟩⟩⟩⟩⟩⟩⟩⟩⟩⟩⟩⟩⟩⟩⟩⟩⟩⟩⟩⟩⟩⟩⟩⟩⟩⟩⟩⟩⟩⟩⟩⟩⟩⟩⟩⟩⟩⟩⟩⟩⟩⟩⟩⟩⟩⟩⟩⟩⟩⟩⟩⟩⟩⟩⟩⟩⟩⟩⟩⟩⟩⟩⟩⟩⟩⟩⟩⟩⟩⟩⟩⟩⟩⟩⟩⟩⟩⟩⟩⟩⟩⟩⟩⟩⟩⟩⟩⟩⟩⟩⟩⟩⟩⟩⟩⟩⟩⟩⟩⟩⟩⟩⟩⟩⟩⟩⟩⟩⟩⟩⟩⟩⟩⟩⟩⟩⟩⟩⟩⟩⟩⟩⟩⟩⟩⟩⟩⟩⟩⟩⟩⟩⟩⟩⟩⟩⟩
/-- method links: number of the own class, index, method (999 Object.<init>, 998 arraycopy), kind, 1 by nest -/
def zMLT : List (Nat × Nat × Nat × Nat × Nat) := [(0, 3, 999, 3, 0), (0, 35, 79, 2, 1), (0, 40, 30, 2, 1), (0, 41, 78, 2, 1), (0, 42, 43, 2, 1), (0, 62, 335, 1, 0), (0, 68, 80, 0, 0), (0, 79, 2, 0, 0), (1, 3, 999, 3, 0), (1, 15, 1, 0, 0), (1, 20, 101, 0, 0), (1, 26, 8, 0, 0), (1, 30, 109, 0, 0), (1, 34, 107, 0, 0), (1, 38, 93, 0, 0), (1, 42, 104, 0, 0), (1, 45, 9, 0, 0), (1, 48, 10, 0, 0), (1, 51, 97, 0, 0), (1, 58, 14, 0, 0), (1, 62, 110, 0, 0), (1, 76, 11, 0, 0), (1, 79, 12, 0, 0), (1, 89, 95, 0, 0), (1, 92, 111, 0, 0), (1, 100, 13, 0, 0), (1, 104, 108, 0, 0), (1, 113, 15, 0, 0), (1, 138, 2, 0, 0), (1, 142, 106, 0, 0), (1, 150, 84, 0, 0), (1, 169, 3, 0, 0), (2, 5, 999, 3, 0), (2, 19, 19, 0, 0), (2, 35, 20, 0, 0), (2, 53, 21, 1, 0), (2, 57, 22, 1, 0), (2, 61, 24, 1, 0), (2, 65, 26, 1, 0), (2, 72, 129, 1, 1), (2, 76, 25, 1, 0), (2, 79, 326, 1, 0), (2, 85, 33, 0, 0), (2, 89, 27, 1, 0), (3, 3, 999, 3, 0), (4, 3, 999, 3, 0), (4, 31, 998, 4, 0), (4, 46, 335, 1, 0), (4, 52, 320, 1, 0), (4, 58, 36, 0, 0), (4, 61, 134, 1, 1), (4, 65, 129, 1, 1), (4, 69, 39, 0, 0), (4, 72, 77, 1, 0), (5, 3, 999, 3, 0), (6, 3, 999, 3, 0), (6, 27, 45, 0, 0), (6, 35, 48, 0, 0), (6, 39, 49, 0, 0), (6, 43, 50, 1, 0), (6, 47, 51, 1, 0), (6, 51, 321, 1, 0), (6, 57, 326, 1, 0), (6, 60, 324, 1, 0), (6, 67, 327, 1, 0), (6, 70, 325, 1, 0), (6, 75, 101, 0, 0), (6, 81, 108, 0, 0), (6, 84, 54, 0, 0), (6, 87, 56, 0, 0), (6, 90, 109, 0, 0), (6, 94, 53, 0, 0), (6, 97, 107, 0, 0), (6, 100, 93, 0, 0), (6, 103, 336, 1, 0), (6, 109, 55, 0, 0), (6, 112, 104, 0, 0), (6, 115, 97, 0, 0), (6, 118, 57, 0, 0), (6, 121, 105, 0, 0), (6, 124, 58, 0, 0), (6, 127, 59, 0, 0), (6, 130, 103, 0, 0), (6, 134, 60, 0, 0), (6, 137, 61, 0, 0), (6, 140, 62, 0, 0), (6, 143, 63, 0, 0), (6, 146, 102, 0, 0), (6, 149, 110, 0, 0), (6, 152, 64, 0, 0), (7, 3, 999, 3, 0), (7, 29, 134, 1, 1), (7, 33, 68, 0, 0), (7, 37, 334, 1, 0), (7, 43, 67, 1, 0), (7, 46, 72, 0, 0), (7, 50, 69, 0, 0), (7, 53, 70, 0, 0), (7, 56, 324, 1, 0), (7, 63, 77, 1, 0), (8, 3, 999, 3, 0), (9, 3, 999, 3, 0), (9, 18, 335, 1, 0), (9, 31, 83, 1, 0), (9, 35, 134, 1, 1), (9, 39, 85, 0, 0), (9, 42, 323, 1, 0), (9, 47, 90, 0, 0), (10, 3, 999, 3, 0), (10, 28, 328, 0, 0), (10, 34, 329, 0, 0), (10, 47, 326, 1, 0), (10, 61, 97, 0, 0), (10, 64, 98, 1, 0), (10, 71, 99, 0, 0), (10, 74, 100, 0, 0), (10, 77, 104, 0, 0), (10, 79, 106, 0, 0), (10, 83, 105, 0, 0), (10, 87, 107, 0, 0), (10, 91, 103, 0, 0), (11, 1, 999, 3, 0), (11, 15, 91, 2, 0), (11, 22, 6, 2, 0), (11, 31, 44, 2, 0), (11, 38, 0, 2, 0), (11, 58, 65, 2, 1), (11, 65, 16, 2, 1), (11, 83, 32, 2, 1), (11, 87, 114, 0, 0), (11, 91, 116, 0, 0), (11, 95, 96, 0, 0), (11, 99, 7, 0, 0), (11, 103, 119, 0, 0), (11, 112, 52, 0, 0), (11, 115, 93, 0, 0), (11, 120, 94, 0, 0), (11, 131, 46, 0, 0), (11, 143, 122, 0, 0), (11, 150, 81, 0, 0), (11, 155, 82, 0, 0), (11, 158, 34, 0, 0), (11, 162, 124, 0, 0), (11, 166, 92, 1, 0), (11, 169, 125, 0, 0), (11, 182, 126, 0, 0), (11, 192, 127, 0, 0), (11, 202, 128, 0, 0), (11, 205, 35, 0, 0), (11, 208, 130, 1, 0), (11, 211, 134, 1, 0), (11, 217, 129, 1, 0), (11, 223, 33, 0, 0), (11, 228, 131, 1, 0), (11, 252, 38, 0, 0), (11, 255, 132, 0, 0), (11, 259, 133, 1, 0), (11, 264, 141, 0, 0), (11, 271, 135, 0, 0), (11, 278, 66, 0, 0), (11, 282, 71, 0, 0), (11, 285, 140, 0, 0), (11, 292, 76, 1, 0), (11, 300, 145, 0, 0), (11, 304, 148, 0, 0), (11, 308, 146, 0, 0), (11, 312, 147, 0, 0), (11, 315, 74, 0, 0), (11, 318, 75, 0, 0), (11, 322, 320, 1, 0), (11, 327, 4, 0, 0), (11, 332, 5, 0, 0), (11, 337, 322, 1, 0), (11, 346, 324, 1, 0), (11, 351, 151, 0, 0), (11, 355, 150, 0, 0), (11, 358, 86, 0, 0), (11, 361, 45, 0, 0), (11, 364, 153, 0, 0), (11, 368, 47, 0, 0), (11, 372, 36, 0, 0), (11, 378, 155, 0, 0), (11, 381, 144, 0, 0), (11, 385, 152, 0, 0), (11, 388, 157, 0, 0), (11, 392, 158, 0, 0), (11, 396, 87, 0, 0), (11, 400, 160, 0, 0), (11, 403, 161, 0, 0), (11, 407, 88, 0, 0), (11, 411, 37, 0, 0), (11, 414, 89, 0, 0), (11, 417, 85, 0, 0), (11, 422, 73, 0, 0), (11, 426, 167, 0, 0), (11, 432, 31, 0, 0), (11, 435, 40, 0, 0), (11, 439, 335, 1, 0), (11, 444, 41, 0, 0), (11, 448, 163, 0, 0), (11, 454, 42, 0, 0), (11, 460, 178, 0, 0), (11, 477, 177, 0, 0), (11, 480, 181, 0, 0), (11, 483, 182, 0, 0), (11, 487, 67, 1, 0), (11, 490, 69, 0, 0), (11, 493, 70, 0, 0), (11, 496, 18, 0, 0), (11, 500, 17, 0, 0), (11, 503, 23, 1, 0), (11, 507, 186, 0, 0), (11, 510, 28, 1, 0), (11, 514, 29, 1, 0), (12, 1, 999, 3, 0), (12, 260, 194, 0, 0), (12, 264, 192, 1, 0), (12, 271, 195, 0, 0), (12, 275, 196, 0, 0), (12, 278, 191, 0, 0), (12, 282, 198, 0, 0), (12, 285, 193, 1, 0), (12, 291, 188, 1, 0), (12, 295, 201, 0, 0), (12, 312, 202, 0, 0), (12, 316, 204, 0, 0), (12, 320, 200, 0, 0), (12, 324, 206, 0, 0), (12, 328, 205, 0, 0), (12, 332, 197, 0, 0), (12, 336, 207, 0, 0), (12, 340, 208, 0, 0), (12, 344, 209, 0, 0), (12, 347, 211, 0, 0), (12, 350, 212, 0, 0), (12, 353, 210, 0, 0), (12, 356, 199, 0, 0), (12, 359, 203, 0, 0), (12, 362, 213, 0, 0), (12, 368, 215, 0, 0), (12, 389, 216, 0, 0), (12, 395, 220, 0, 0), (12, 398, 219, 0, 0), (12, 401, 217, 0, 0), (12, 404, 221, 0, 0), (12, 407, 222, 0, 0), (12, 410, 218, 0, 0), (12, 413, 223, 0, 0), (12, 416, 224, 0, 0), (12, 419, 225, 0, 0), (12, 422, 226, 0, 0), (12, 425, 228, 0, 0), (12, 428, 230, 0, 0), (12, 431, 227, 0, 0), (12, 434, 231, 0, 0), (12, 437, 232, 0, 0), (12, 440, 229, 0, 0), (12, 445, 233, 0, 0), (12, 450, 236, 0, 0), (12, 457, 242, 0, 0), (12, 461, 241, 0, 0), (12, 465, 239, 0, 0), (12, 470, 240, 0, 0), (12, 475, 246, 0, 0), (12, 480, 248, 1, 0), (12, 483, 250, 0, 0), (12, 487, 251, 0, 0), (12, 490, 252, 0, 0), (12, 494, 249, 0, 0), (12, 499, 253, 0, 0), (12, 505, 255, 0, 0), (12, 511, 256, 1, 0), (12, 516, 257, 0, 0), (12, 519, 258, 0, 0), (12, 522, 260, 0, 0), (12, 525, 261, 0, 0), (12, 528, 262, 0, 0), (12, 538, 264, 1, 0), (12, 542, 266, 0, 0), (12, 546, 265, 1, 0), (12, 555, 269, 0, 0), (12, 558, 267, 0, 0), (12, 561, 268, 0, 0), (12, 564, 270, 0, 0), (12, 567, 272, 0, 0), (12, 570, 271, 0, 0), (12, 573, 275, 0, 0), (12, 576, 274, 0, 0), (12, 579, 277, 0, 0), (12, 582, 237, 0, 0), (12, 587, 279, 0, 0), (12, 590, 280, 0, 0), (12, 594, 282, 0, 0), (12, 598, 281, 0, 0), (12, 601, 285, 0, 0), (12, 604, 291, 0, 0), (12, 607, 292, 0, 0), (12, 610, 290, 0, 0), (12, 613, 293, 0, 0), (12, 617, 295, 0, 0), (12, 621, 296, 0, 0), (12, 626, 301, 0, 0), (12, 629, 288, 0, 0), (12, 646, 306, 0, 0), (12, 649, 307, 0, 0), (12, 656, 311, 0, 0), (12, 659, 312, 0, 0), (12, 662, 313, 1, 0), (12, 665, 316, 0, 0), (12, 668, 317, 0, 0), (12, 671, 318, 0, 0), (13, 335, 330, 0, 0), (13, 492, 331, 0, 0), (13, 495, 333, 1, 0), (13, 1059, 337, 1, 0), (14, 9, 332, 1, 0), (17, 304, 326, 1, 0), (17, 150, 998, 4, 0), (19, 9, 112, 2, 0), (19, 12, 187, 2, 0), (19, 13, 113, 0, 0), (19, 17, 189, 0, 0), (19, 18, 115, 0, 0), (19, 22, 190, 0, 0), (19, 23, 117, 0, 0), (19, 27, 214, 0, 0), (19, 28, 118, 0, 0), (19, 32, 234, 0, 0), (19, 33, 120, 0, 0), (19, 36, 235, 0, 0), (19, 37, 121, 0, 0), (19, 40, 237, 0, 0), (19, 41, 123, 0, 0), (19, 45, 238, 0, 0), (19, 46, 136, 0, 0), (19, 50, 243, 0, 0), (19, 51, 137, 0, 0), (19, 54, 244, 0, 0), (19, 55, 138, 0, 0), (19, 58, 245, 0, 0), (19, 59, 139, 0, 0), (19, 62, 247, 0, 0), (19, 63, 140, 0, 0), (19, 67, 254, 0, 0), (19, 68, 142, 0, 0), (19, 71, 283, 0, 0), (19, 72, 143, 0, 0), (19, 75, 284, 0, 0), (19, 76, 144, 0, 0), (19, 80, 259, 0, 0), (19, 81, 149, 0, 0), (19, 85, 263, 0, 0), (19, 86, 152, 0, 0), (19, 89, 273, 0, 0), (19, 90, 154, 0, 0), (19, 93, 276, 0, 0), (19, 94, 156, 0, 0), (19, 97, 278, 0, 0), (19, 98, 159, 0, 0), (19, 102, 286, 0, 0), (19, 103, 162, 0, 0), (19, 106, 287, 0, 0), (19, 107, 163, 0, 0), (19, 110, 288, 0, 0), (19, 111, 164, 0, 0), (19, 114, 289, 0, 0), (19, 115, 165, 0, 0), (19, 119, 294, 0, 0), (19, 120, 166, 0, 0), (19, 123, 296, 0, 0), (19, 124, 168, 0, 0), (19, 127, 297, 0, 0), (19, 128, 169, 0, 0), (19, 131, 298, 0, 0), (19, 132, 170, 0, 0), (19, 135, 299, 0, 0), (19, 136, 171, 0, 0), (19, 139, 300, 0, 0), (19, 140, 172, 0, 0), (19, 143, 302, 0, 0), (19, 144, 173, 0, 0), (19, 147, 303, 0, 0), (19, 148, 174, 0, 0), (19, 151, 304, 0, 0), (19, 152, 175, 0, 0), (19, 155, 305, 0, 0), (19, 156, 176, 0, 0), (19, 159, 308, 0, 0), (19, 160, 179, 0, 0), (19, 163, 309, 0, 0), (19, 164, 180, 0, 0), (19, 167, 310, 0, 0), (19, 168, 183, 0, 0), (19, 171, 314, 0, 0), (19, 172, 184, 0, 0), (19, 175, 315, 0, 0), (19, 176, 185, 0, 0), (19, 180, 319, 0, 0)]
def zMn (m : Nat) : MethodName := bif Nat.beq m 999 then objectInit else bif Nat.beq m 998 then arraycopyName else (zY m).1
def zLok (e : Nat × Nat × Nat × Nat × Nat) : Prop := (bif Nat.beq e.2.2.2.2 0 then Cond.methodLink (zcn e.1) e.2.1 (zMn e.2.2.1) else Cond.methodLinkNest (zcn e.1) e.2.1 (zMn e.2.2.1) "ThreeSizes") ∈ lw_tbl
set_option maxRecDepth 100000 in
theorem zl_0 : zLok (0, 3, 999, 3, 0) := zt1 (List.mem_of_getElem? (i := 162) rfl)
set_option maxRecDepth 100000 in
theorem zl_1 : zLok (0, 35, 79, 2, 1) := zt1 (List.mem_of_getElem? (i := 171) rfl)
set_option maxRecDepth 100000 in
theorem zl_2 : zLok (0, 40, 30, 2, 1) := zt1 (List.mem_of_getElem? (i := 189) rfl)
set_option maxRecDepth 100000 in
theorem zl_3 : zLok (0, 41, 78, 2, 1) := zt1 (List.mem_of_getElem? (i := 216) rfl)
set_option maxRecDepth 100000 in
theorem zl_4 : zLok (0, 42, 43, 2, 1) := zt2 (List.mem_of_getElem? (i := 4) rfl)
set_option maxRecDepth 100000 in
theorem zl_5 : zLok (0, 62, 335, 1, 0) := zt3 (List.mem_of_getElem? (i := 30) rfl)
set_option maxRecDepth 100000 in
theorem zl_6 : zLok (0, 68, 80, 0, 0) := zt3 (List.mem_of_getElem? (i := 33) rfl)
set_option maxRecDepth 100000 in
theorem zl_7 : zLok (0, 79, 2, 0, 0) := zt3 (List.mem_of_getElem? (i := 80) rfl)
set_option maxRecDepth 100000 in
theorem zl_8 : zLok (1, 3, 999, 3, 0) := zt1 (List.mem_of_getElem? (i := 125) rfl)
set_option maxRecDepth 100000 in
theorem zl_9 : zLok (1, 15, 1, 0, 0) := zt3 (List.mem_of_getElem? (i := 26) rfl)
set_option maxRecDepth 100000 in
theorem zl_10 : zLok (1, 20, 101, 0, 0) := zt3 (List.mem_of_getElem? (i := 38) rfl)
set_option maxRecDepth 100000 in
theorem zl_11 : zLok (1, 26, 8, 0, 0) := zt3 (List.mem_of_getElem? (i := 42) rfl)
set_option maxRecDepth 100000 in
theorem zl_12 : zLok (1, 30, 109, 0, 0) := zt3 (List.mem_of_getElem? (i := 126) rfl)
set_option maxRecDepth 100000 in
theorem zl_13 : zLok (1, 34, 107, 0, 0) := zt3 (List.mem_of_getElem? (i := 54) rfl)
set_option maxRecDepth 100000 in
theorem zl_14 : zLok (1, 38, 93, 0, 0) := zt3 (List.mem_of_getElem? (i := 134) rfl)
set_option maxRecDepth 100000 in
theorem zl_15 : zLok (1, 42, 104, 0, 0) := zt3 (List.mem_of_getElem? (i := 46) rfl)
set_option maxRecDepth 100000 in
theorem zl_16 : zLok (1, 45, 9, 0, 0) := zt3 (List.mem_of_getElem? (i := 50) rfl)
set_option maxRecDepth 100000 in
theorem zl_17 : zLok (1, 48, 10, 0, 0) := zt3 (List.mem_of_getElem? (i := 102) rfl)
set_option maxRecDepth 100000 in
theorem zl_18 : zLok (1, 51, 97, 0, 0) := zt3 (List.mem_of_getElem? (i := 62) rfl)
set_option maxRecDepth 100000 in
theorem zl_19 : zLok (1, 58, 14, 0, 0) := zt3 (List.mem_of_getElem? (i := 106) rfl)
set_option maxRecDepth 100000 in
theorem zl_20 : zLok (1, 62, 110, 0, 0) := zt3 (List.mem_of_getElem? (i := 94) rfl)
set_option maxRecDepth 100000 in
theorem zl_21 : zLok (1, 76, 11, 0, 0) := zt3 (List.mem_of_getElem? (i := 110) rfl)
set_option maxRecDepth 100000 in
theorem zl_22 : zLok (1, 79, 12, 0, 0) := zt3 (List.mem_of_getElem? (i := 122) rfl)
set_option maxRecDepth 100000 in
theorem zl_23 : zLok (1, 89, 95, 0, 0) := zt3 (List.mem_of_getElem? (i := 63) rfl)
set_option maxRecDepth 100000 in
theorem zl_24 : zLok (1, 92, 111, 0, 0) := zt3 (List.mem_of_getElem? (i := 67) rfl)
set_option maxRecDepth 100000 in
theorem zl_25 : zLok (1, 100, 13, 0, 0) := zt3 (List.mem_of_getElem? (i := 72) rfl)
set_option maxRecDepth 100000 in
theorem zl_26 : zLok (1, 104, 108, 0, 0) := zt3 (List.mem_of_getElem? (i := 85) rfl)
set_option maxRecDepth 100000 in
theorem zl_27 : zLok (1, 113, 15, 0, 0) := zt3 (List.mem_of_getElem? (i := 98) rfl)
set_option maxRecDepth 100000 in
theorem zl_28 : zLok (1, 138, 2, 0, 0) := zt3 (List.mem_of_getElem? (i := 114) rfl)
set_option maxRecDepth 100000 in
theorem zl_29 : zLok (1, 142, 106, 0, 0) := zt3 (List.mem_of_getElem? (i := 84) rfl)
set_option maxRecDepth 100000 in
theorem zl_30 : zLok (1, 150, 84, 0, 0) := zt3 (List.mem_of_getElem? (i := 115) rfl)
set_option maxRecDepth 100000 in
theorem zl_31 : zLok (1, 169, 3, 0, 0) := zt3 (List.mem_of_getElem? (i := 76) rfl)
set_option maxRecDepth 100000 in
theorem zl_32 : zLok (2, 5, 999, 3, 0) := zt2 (List.mem_of_getElem? (i := 110) rfl)
set_option maxRecDepth 100000 in
theorem zl_33 : zLok (2, 19, 19, 0, 0) := zt5 (List.mem_of_getElem? (i := 227) rfl)
set_option maxRecDepth 100000 in
theorem zl_34 : zLok (2, 35, 20, 0, 0) := zt5 (List.mem_of_getElem? (i := 231) rfl)
set_option maxRecDepth 100000 in
theorem zl_35 : zLok (2, 53, 21, 1, 0) := zt5 (List.mem_of_getElem? (i := 235) rfl)
set_option maxRecDepth 100000 in
theorem zl_36 : zLok (2, 57, 22, 1, 0) := zt6 (List.mem_of_getElem? (i := 13) rfl)
set_option maxRecDepth 100000 in
theorem zl_37 : zLok (2, 61, 24, 1, 0) := zt6 (List.mem_of_getElem? (i := 16) rfl)
set_option maxRecDepth 100000 in
theorem zl_38 : zLok (2, 65, 26, 1, 0) := zt6 (List.mem_of_getElem? (i := 20) rfl)
set_option maxRecDepth 100000 in
theorem zl_39 : zLok (2, 72, 129, 1, 1) := zt6 (List.mem_of_getElem? (i := 19) rfl)
set_option maxRecDepth 100000 in
theorem zl_40 : zLok (2, 76, 25, 1, 0) := zt6 (List.mem_of_getElem? (i := 23) rfl)
set_option maxRecDepth 100000 in
theorem zl_41 : zLok (2, 79, 326, 1, 0) := zt6 (List.mem_of_getElem? (i := 33) rfl)
set_option maxRecDepth 100000 in
theorem zl_42 : zLok (2, 85, 33, 0, 0) := zt6 (List.mem_of_getElem? (i := 34) rfl)
set_option maxRecDepth 100000 in
theorem zl_43 : zLok (2, 89, 27, 1, 0) := zt6 (List.mem_of_getElem? (i := 35) rfl)
set_option maxRecDepth 100000 in
theorem zl_44 : zLok (3, 3, 999, 3, 0) := zt1 (List.mem_of_getElem? (i := 192) rfl)
set_option maxRecDepth 100000 in
theorem zl_45 : zLok (4, 3, 999, 3, 0) := zt2 (List.mem_of_getElem? (i := 122) rfl)
set_option maxRecDepth 100000 in
theorem zl_46 : zLok (4, 31, 998, 4, 0) := zt4 (List.mem_of_getElem? (i := 57) rfl)
set_option maxRecDepth 100000 in
theorem zl_47 : zLok (4, 46, 335, 1, 0) := zt4 (List.mem_of_getElem? (i := 58) rfl)
set_option maxRecDepth 100000 in
theorem zl_48 : zLok (4, 52, 320, 1, 0) := zt4 (List.mem_of_getElem? (i := 97) rfl)
set_option maxRecDepth 100000 in
theorem zl_49 : zLok (4, 58, 36, 0, 0) := zt4 (List.mem_of_getElem? (i := 103) rfl)
set_option maxRecDepth 100000 in
theorem zl_50 : zLok (4, 61, 134, 1, 1) := zt4 (List.mem_of_getElem? (i := 107) rfl)
set_option maxRecDepth 100000 in
theorem zl_51 : zLok (4, 65, 129, 1, 1) := zt4 (List.mem_of_getElem? (i := 110) rfl)
set_option maxRecDepth 100000 in
theorem zl_52 : zLok (4, 69, 39, 0, 0) := zt5 (List.mem_of_getElem? (i := 156) rfl)
set_option maxRecDepth 100000 in
theorem zl_53 : zLok (4, 72, 77, 1, 0) := zt5 (List.mem_of_getElem? (i := 182) rfl)
set_option maxRecDepth 100000 in
theorem zl_54 : zLok (5, 3, 999, 3, 0) := zt2 (List.mem_of_getElem? (i := 7) rfl)
set_option maxRecDepth 100000 in
theorem zl_55 : zLok (6, 3, 999, 3, 0) := zt1 (List.mem_of_getElem? (i := 135) rfl)
set_option maxRecDepth 100000 in
theorem zl_56 : zLok (6, 27, 45, 0, 0) := zt4 (List.mem_of_getElem? (i := 3) rfl)
set_option maxRecDepth 100000 in
theorem zl_57 : zLok (6, 35, 48, 0, 0) := zt5 (List.mem_of_getElem? (i := 13) rfl)
set_option maxRecDepth 100000 in
theorem zl_58 : zLok (6, 39, 49, 0, 0) := zt5 (List.mem_of_getElem? (i := 17) rfl)
set_option maxRecDepth 100000 in
theorem zl_59 : zLok (6, 43, 50, 1, 0) := zt5 (List.mem_of_getElem? (i := 21) rfl)
set_option maxRecDepth 100000 in
theorem zl_60 : zLok (6, 47, 51, 1, 0) := zt5 (List.mem_of_getElem? (i := 24) rfl)
set_option maxRecDepth 100000 in
theorem zl_61 : zLok (6, 51, 321, 1, 0) := zt5 (List.mem_of_getElem? (i := 35) rfl)
set_option maxRecDepth 100000 in
theorem zl_62 : zLok (6, 57, 326, 1, 0) := zt5 (List.mem_of_getElem? (i := 38) rfl)
set_option maxRecDepth 100000 in
theorem zl_63 : zLok (6, 60, 324, 1, 0) := zt5 (List.mem_of_getElem? (i := 39) rfl)
set_option maxRecDepth 100000 in
theorem zl_64 : zLok (6, 67, 327, 1, 0) := zt5 (List.mem_of_getElem? (i := 29) rfl)
set_option maxRecDepth 100000 in
theorem zl_65 : zLok (6, 70, 325, 1, 0) := zt5 (List.mem_of_getElem? (i := 32) rfl)
set_option maxRecDepth 100000 in
theorem zl_66 : zLok (6, 75, 101, 0, 0) := zt3 (List.mem_of_getElem? (i := 155) rfl)
set_option maxRecDepth 100000 in
theorem zl_67 : zLok (6, 81, 108, 0, 0) := zt3 (List.mem_of_getElem? (i := 156) rfl)
set_option maxRecDepth 100000 in
theorem zl_68 : zLok (6, 84, 54, 0, 0) := zt3 (List.mem_of_getElem? (i := 157) rfl)
set_option maxRecDepth 100000 in
theorem zl_69 : zLok (6, 87, 56, 0, 0) := zt3 (List.mem_of_getElem? (i := 168) rfl)
set_option maxRecDepth 100000 in
theorem zl_70 : zLok (6, 90, 109, 0, 0) := zt3 (List.mem_of_getElem? (i := 190) rfl)
set_option maxRecDepth 100000 in
theorem zl_71 : zLok (6, 94, 53, 0, 0) := zt3 (List.mem_of_getElem? (i := 181) rfl)
set_option maxRecDepth 100000 in
theorem zl_72 : zLok (6, 97, 107, 0, 0) := zt3 (List.mem_of_getElem? (i := 166) rfl)
set_option maxRecDepth 100000 in
theorem zl_73 : zLok (6, 100, 93, 0, 0) := zt3 (List.mem_of_getElem? (i := 216) rfl)
set_option maxRecDepth 100000 in
theorem zl_74 : zLok (6, 103, 336, 1, 0) := zt3 (List.mem_of_getElem? (i := 217) rfl)
set_option maxRecDepth 100000 in
theorem zl_75 : zLok (6, 109, 55, 0, 0) := zt3 (List.mem_of_getElem? (i := 161) rfl)
set_option maxRecDepth 100000 in
theorem zl_76 : zLok (6, 112, 104, 0, 0) := zt3 (List.mem_of_getElem? (i := 165) rfl)
set_option maxRecDepth 100000 in
theorem zl_77 : zLok (6, 115, 97, 0, 0) := zt3 (List.mem_of_getElem? (i := 167) rfl)
set_option maxRecDepth 100000 in
theorem zl_78 : zLok (6, 118, 57, 0, 0) := zt3 (List.mem_of_getElem? (i := 172) rfl)
set_option maxRecDepth 100000 in
theorem zl_79 : zLok (6, 121, 105, 0, 0) := zt3 (List.mem_of_getElem? (i := 180) rfl)
set_option maxRecDepth 100000 in
theorem zl_80 : zLok (6, 124, 58, 0, 0) := zt3 (List.mem_of_getElem? (i := 176) rfl)
set_option maxRecDepth 100000 in
theorem zl_81 : zLok (6, 127, 59, 0, 0) := zt3 (List.mem_of_getElem? (i := 185) rfl)
set_option maxRecDepth 100000 in
theorem zl_82 : zLok (6, 130, 103, 0, 0) := zt3 (List.mem_of_getElem? (i := 189) rfl)
set_option maxRecDepth 100000 in
theorem zl_83 : zLok (6, 134, 60, 0, 0) := zt3 (List.mem_of_getElem? (i := 191) rfl)
set_option maxRecDepth 100000 in
theorem zl_84 : zLok (6, 137, 61, 0, 0) := zt3 (List.mem_of_getElem? (i := 195) rfl)
set_option maxRecDepth 100000 in
theorem zl_85 : zLok (6, 140, 62, 0, 0) := zt3 (List.mem_of_getElem? (i := 199) rfl)
set_option maxRecDepth 100000 in
theorem zl_86 : zLok (6, 143, 63, 0, 0) := zt3 (List.mem_of_getElem? (i := 203) rfl)
set_option maxRecDepth 100000 in
theorem zl_87 : zLok (6, 146, 102, 0, 0) := zt3 (List.mem_of_getElem? (i := 207) rfl)
set_option maxRecDepth 100000 in
theorem zl_88 : zLok (6, 149, 110, 0, 0) := zt3 (List.mem_of_getElem? (i := 211) rfl)
set_option maxRecDepth 100000 in
theorem zl_89 : zLok (6, 152, 64, 0, 0) := zt3 (List.mem_of_getElem? (i := 212) rfl)
set_option maxRecDepth 100000 in
theorem zl_90 : zLok (7, 3, 999, 3, 0) := zt2 (List.mem_of_getElem? (i := 85) rfl)
set_option maxRecDepth 100000 in
theorem zl_91 : zLok (7, 29, 134, 1, 1) := zt4 (List.mem_of_getElem? (i := 146) rfl)
set_option maxRecDepth 100000 in
theorem zl_92 : zLok (7, 33, 68, 0, 0) := zt4 (List.mem_of_getElem? (i := 147) rfl)
set_option maxRecDepth 100000 in
theorem zl_93 : zLok (7, 37, 334, 1, 0) := zt4 (List.mem_of_getElem? (i := 132) rfl)
set_option maxRecDepth 100000 in
theorem zl_94 : zLok (7, 43, 67, 1, 0) := zt4 (List.mem_of_getElem? (i := 135) rfl)
set_option maxRecDepth 100000 in
theorem zl_95 : zLok (7, 46, 72, 0, 0) := zt4 (List.mem_of_getElem? (i := 138) rfl)
set_option maxRecDepth 100000 in
theorem zl_96 : zLok (7, 50, 69, 0, 0) := zt4 (List.mem_of_getElem? (i := 142) rfl)
set_option maxRecDepth 100000 in
theorem zl_97 : zLok (7, 53, 70, 0, 0) := zt4 (List.mem_of_getElem? (i := 151) rfl)
set_option maxRecDepth 100000 in
theorem zl_98 : zLok (7, 56, 324, 1, 0) := zt4 (List.mem_of_getElem? (i := 196) rfl)
set_option maxRecDepth 100000 in
theorem zl_99 : zLok (7, 63, 77, 1, 0) := zt4 (List.mem_of_getElem? (i := 164) rfl)
set_option maxRecDepth 100000 in
theorem zl_100 : zLok (8, 3, 999, 3, 0) := zt1 (List.mem_of_getElem? (i := 219) rfl)
set_option maxRecDepth 100000 in
theorem zl_101 : zLok (9, 3, 999, 3, 0) := zt1 (List.mem_of_getElem? (i := 174) rfl)
set_option maxRecDepth 100000 in
theorem zl_102 : zLok (9, 18, 335, 1, 0) := zt3 (List.mem_of_getElem? (i := 37) rfl)
set_option maxRecDepth 100000 in
theorem zl_103 : zLok (9, 31, 83, 1, 0) := zt3 (List.mem_of_getElem? (i := 119) rfl)
set_option maxRecDepth 100000 in
theorem zl_104 : zLok (9, 35, 134, 1, 1) := zt4 (List.mem_of_getElem? (i := 235) rfl)
set_option maxRecDepth 100000 in
theorem zl_105 : zLok (9, 39, 85, 0, 0) := zt4 (List.mem_of_getElem? (i := 236) rfl)
set_option maxRecDepth 100000 in
theorem zl_106 : zLok (9, 42, 323, 1, 0) := zt5 (List.mem_of_getElem? (i := 83) rfl)
set_option maxRecDepth 100000 in
theorem zl_107 : zLok (9, 47, 90, 0, 0) := zt5 (List.mem_of_getElem? (i := 98) rfl)
set_option maxRecDepth 100000 in
theorem zl_108 : zLok (10, 3, 999, 3, 0) := zt1 (List.mem_of_getElem? (i := 35) rfl)
set_option maxRecDepth 100000 in
theorem zl_109 : zLok (10, 28, 328, 0, 0) := zt1 (List.mem_of_getElem? (i := 37) rfl)
set_option maxRecDepth 100000 in
theorem zl_110 : zLok (10, 34, 329, 0, 0) := zt1 (List.mem_of_getElem? (i := 47) rfl)
set_option maxRecDepth 100000 in
theorem zl_111 : zLok (10, 47, 326, 1, 0) := zt3 (List.mem_of_getElem? (i := 4) rfl)
set_option maxRecDepth 100000 in
theorem zl_112 : zLok (10, 61, 97, 0, 0) := zt3 (List.mem_of_getElem? (i := 7) rfl)
set_option maxRecDepth 100000 in
theorem zl_113 : zLok (10, 64, 98, 1, 0) := zt3 (List.mem_of_getElem? (i := 11) rfl)
set_option maxRecDepth 100000 in
theorem zl_114 : zLok (10, 71, 99, 0, 0) := zt3 (List.mem_of_getElem? (i := 14) rfl)
set_option maxRecDepth 100000 in
theorem zl_115 : zLok (10, 74, 100, 0, 0) := zt3 (List.mem_of_getElem? (i := 18) rfl)
set_option maxRecDepth 100000 in
theorem zl_116 : zLok (10, 77, 104, 0, 0) := zt3 (List.mem_of_getElem? (i := 93) rfl)
set_option maxRecDepth 100000 in
theorem zl_117 : zLok (10, 79, 106, 0, 0) := zt3 (List.mem_of_getElem? (i := 58) rfl)
set_option maxRecDepth 100000 in
theorem zl_118 : zLok (10, 83, 105, 0, 0) := zt3 (List.mem_of_getElem? (i := 89) rfl)
set_option maxRecDepth 100000 in
theorem zl_119 : zLok (10, 87, 107, 0, 0) := zt3 (List.mem_of_getElem? (i := 71) rfl)
set_option maxRecDepth 100000 in
theorem zl_120 : zLok (10, 91, 103, 0, 0) := zt3 (List.mem_of_getElem? (i := 130) rfl)
set_option maxRecDepth 100000 in
theorem zl_121 : zLok (11, 1, 999, 3, 0) := zt1 (List.mem_of_getElem? (i := 27) rfl)
set_option maxRecDepth 100000 in
theorem zl_122 : zLok (11, 15, 91, 2, 0) := zt1 (List.mem_of_getElem? (i := 32) rfl)
set_option maxRecDepth 100000 in
theorem zl_123 : zLok (11, 22, 6, 2, 0) := zt1 (List.mem_of_getElem? (i := 122) rfl)
set_option maxRecDepth 100000 in
theorem zl_124 : zLok (11, 31, 44, 2, 0) := zt1 (List.mem_of_getElem? (i := 132) rfl)
set_option maxRecDepth 100000 in
theorem zl_125 : zLok (11, 38, 0, 2, 0) := zt1 (List.mem_of_getElem? (i := 159) rfl)
set_option maxRecDepth 100000 in
theorem zl_126 : zLok (11, 58, 65, 2, 1) := zt2 (List.mem_of_getElem? (i := 82) rfl)
set_option maxRecDepth 100000 in
theorem zl_127 : zLok (11, 65, 16, 2, 1) := zt2 (List.mem_of_getElem? (i := 107) rfl)
set_option maxRecDepth 100000 in
theorem zl_128 : zLok (11, 83, 32, 2, 1) := zt2 (List.mem_of_getElem? (i := 119) rfl)
set_option maxRecDepth 100000 in
theorem zl_129 : zLok (11, 87, 114, 0, 0) := zt2 (List.mem_of_getElem? (i := 224) rfl)
set_option maxRecDepth 100000 in
theorem zl_130 : zLok (11, 91, 116, 0, 0) := zt2 (List.mem_of_getElem? (i := 236) rfl)
set_option maxRecDepth 100000 in
theorem zl_131 : zLok (11, 95, 96, 0, 0) := zt3 (List.mem_of_getElem? (i := 0) rfl)
set_option maxRecDepth 100000 in
theorem zl_132 : zLok (11, 99, 7, 0, 0) := zt3 (List.mem_of_getElem? (i := 22) rfl)
set_option maxRecDepth 100000 in
theorem zl_133 : zLok (11, 103, 119, 0, 0) := zt3 (List.mem_of_getElem? (i := 138) rfl)
set_option maxRecDepth 100000 in
theorem zl_134 : zLok (11, 112, 52, 0, 0) := zt3 (List.mem_of_getElem? (i := 151) rfl)
set_option maxRecDepth 100000 in
theorem zl_135 : zLok (11, 115, 93, 0, 0) := zt3 (List.mem_of_getElem? (i := 142) rfl)
set_option maxRecDepth 100000 in
theorem zl_136 : zLok (11, 120, 94, 0, 0) := zt3 (List.mem_of_getElem? (i := 143) rfl)
set_option maxRecDepth 100000 in
theorem zl_137 : zLok (11, 131, 46, 0, 0) := zt3 (List.mem_of_getElem? (i := 239) rfl)
set_option maxRecDepth 100000 in
theorem zl_138 : zLok (11, 143, 122, 0, 0) := zt4 (List.mem_of_getElem? (i := 7) rfl)
set_option maxRecDepth 100000 in
theorem zl_139 : zLok (11, 150, 81, 0, 0) := zt4 (List.mem_of_getElem? (i := 15) rfl)
set_option maxRecDepth 100000 in
theorem zl_140 : zLok (11, 155, 82, 0, 0) := zt4 (List.mem_of_getElem? (i := 19) rfl)
set_option maxRecDepth 100000 in
theorem zl_141 : zLok (11, 158, 34, 0, 0) := zt4 (List.mem_of_getElem? (i := 11) rfl)
set_option maxRecDepth 100000 in
theorem zl_142 : zLok (11, 162, 124, 0, 0) := zt4 (List.mem_of_getElem? (i := 27) rfl)
set_option maxRecDepth 100000 in
theorem zl_143 : zLok (11, 166, 92, 1, 0) := zt4 (List.mem_of_getElem? (i := 43) rfl)
set_option maxRecDepth 100000 in
theorem zl_144 : zLok (11, 169, 125, 0, 0) := zt4 (List.mem_of_getElem? (i := 31) rfl)
set_option maxRecDepth 100000 in
theorem zl_145 : zLok (11, 182, 126, 0, 0) := zt4 (List.mem_of_getElem? (i := 35) rfl)
set_option maxRecDepth 100000 in
theorem zl_146 : zLok (11, 192, 127, 0, 0) := zt4 (List.mem_of_getElem? (i := 39) rfl)
set_option maxRecDepth 100000 in
theorem zl_147 : zLok (11, 202, 128, 0, 0) := zt4 (List.mem_of_getElem? (i := 63) rfl)
set_option maxRecDepth 100000 in
theorem zl_148 : zLok (11, 205, 35, 0, 0) := zt4 (List.mem_of_getElem? (i := 93) rfl)
set_option maxRecDepth 100000 in
theorem zl_149 : zLok (11, 208, 130, 1, 0) := zt4 (List.mem_of_getElem? (i := 67) rfl)
set_option maxRecDepth 100000 in
theorem zl_150 : zLok (11, 211, 134, 1, 0) := zt4 (List.mem_of_getElem? (i := 114) rfl)
set_option maxRecDepth 100000 in
theorem zl_151 : zLok (11, 217, 129, 1, 0) := zt4 (List.mem_of_getElem? (i := 50) rfl)
set_option maxRecDepth 100000 in
theorem zl_152 : zLok (11, 223, 33, 0, 0) := zt4 (List.mem_of_getElem? (i := 53) rfl)
set_option maxRecDepth 100000 in
theorem zl_153 : zLok (11, 228, 131, 1, 0) := zt4 (List.mem_of_getElem? (i := 74) rfl)
set_option maxRecDepth 100000 in
theorem zl_154 : zLok (11, 252, 38, 0, 0) := zt4 (List.mem_of_getElem? (i := 81) rfl)
set_option maxRecDepth 100000 in
theorem zl_155 : zLok (11, 255, 132, 0, 0) := zt4 (List.mem_of_getElem? (i := 89) rfl)
set_option maxRecDepth 100000 in
theorem zl_156 : zLok (11, 259, 133, 1, 0) := zt4 (List.mem_of_getElem? (i := 111) rfl)
set_option maxRecDepth 100000 in
theorem zl_157 : zLok (11, 264, 141, 0, 0) := zt4 (List.mem_of_getElem? (i := 116) rfl)
set_option maxRecDepth 100000 in
theorem zl_158 : zLok (11, 271, 135, 0, 0) := zt4 (List.mem_of_getElem? (i := 120) rfl)
set_option maxRecDepth 100000 in
theorem zl_159 : zLok (11, 278, 66, 0, 0) := zt4 (List.mem_of_getElem? (i := 124) rfl)
set_option maxRecDepth 100000 in
theorem zl_160 : zLok (11, 282, 71, 0, 0) := zt4 (List.mem_of_getElem? (i := 128) rfl)
set_option maxRecDepth 100000 in
theorem zl_161 : zLok (11, 285, 140, 0, 0) := zt4 (List.mem_of_getElem? (i := 159) rfl)
set_option maxRecDepth 100000 in
theorem zl_162 : zLok (11, 292, 76, 1, 0) := zt4 (List.mem_of_getElem? (i := 160) rfl)
set_option maxRecDepth 100000 in
theorem zl_163 : zLok (11, 300, 145, 0, 0) := zt4 (List.mem_of_getElem? (i := 176) rfl)
set_option maxRecDepth 100000 in
theorem zl_164 : zLok (11, 304, 148, 0, 0) := zt4 (List.mem_of_getElem? (i := 213) rfl)
set_option maxRecDepth 100000 in
theorem zl_165 : zLok (11, 308, 146, 0, 0) := zt4 (List.mem_of_getElem? (i := 180) rfl)
set_option maxRecDepth 100000 in
theorem zl_166 : zLok (11, 312, 147, 0, 0) := zt4 (List.mem_of_getElem? (i := 188) rfl)
set_option maxRecDepth 100000 in
theorem zl_167 : zLok (11, 315, 74, 0, 0) := zt4 (List.mem_of_getElem? (i := 184) rfl)
set_option maxRecDepth 100000 in
theorem zl_168 : zLok (11, 318, 75, 0, 0) := zt4 (List.mem_of_getElem? (i := 192) rfl)
set_option maxRecDepth 100000 in
theorem zl_169 : zLok (11, 322, 320, 1, 0) := zt4 (List.mem_of_getElem? (i := 199) rfl)
set_option maxRecDepth 100000 in
theorem zl_170 : zLok (11, 327, 4, 0, 0) := zt4 (List.mem_of_getElem? (i := 200) rfl)
set_option maxRecDepth 100000 in
theorem zl_171 : zLok (11, 332, 5, 0, 0) := zt4 (List.mem_of_getElem? (i := 205) rfl)
set_option maxRecDepth 100000 in
theorem zl_172 : zLok (11, 337, 322, 1, 0) := zt4 (List.mem_of_getElem? (i := 210) rfl)
set_option maxRecDepth 100000 in
theorem zl_173 : zLok (11, 346, 324, 1, 0) := zt4 (List.mem_of_getElem? (i := 217) rfl)
set_option maxRecDepth 100000 in
theorem zl_174 : zLok (11, 351, 151, 0, 0) := zt4 (List.mem_of_getElem? (i := 223) rfl)
set_option maxRecDepth 100000 in
theorem zl_175 : zLok (11, 355, 150, 0, 0) := zt4 (List.mem_of_getElem? (i := 227) rfl)
set_option maxRecDepth 100000 in
theorem zl_176 : zLok (11, 358, 86, 0, 0) := zt4 (List.mem_of_getElem? (i := 231) rfl)
set_option maxRecDepth 100000 in
theorem zl_177 : zLok (11, 361, 45, 0, 0) := zt5 (List.mem_of_getElem? (i := 4) rfl)
set_option maxRecDepth 100000 in
theorem zl_178 : zLok (11, 364, 153, 0, 0) := zt5 (List.mem_of_getElem? (i := 5) rfl)
set_option maxRecDepth 100000 in
theorem zl_179 : zLok (11, 368, 47, 0, 0) := zt5 (List.mem_of_getElem? (i := 9) rfl)
set_option maxRecDepth 100000 in
theorem zl_180 : zLok (11, 372, 36, 0, 0) := zt5 (List.mem_of_getElem? (i := 40) rfl)
set_option maxRecDepth 100000 in
theorem zl_181 : zLok (11, 378, 155, 0, 0) := zt5 (List.mem_of_getElem? (i := 45) rfl)
set_option maxRecDepth 100000 in
theorem zl_182 : zLok (11, 381, 144, 0, 0) := zt5 (List.mem_of_getElem? (i := 50) rfl)
set_option maxRecDepth 100000 in
theorem zl_183 : zLok (11, 385, 152, 0, 0) := zt5 (List.mem_of_getElem? (i := 49) rfl)
set_option maxRecDepth 100000 in
theorem zl_184 : zLok (11, 388, 157, 0, 0) := zt5 (List.mem_of_getElem? (i := 55) rfl)
set_option maxRecDepth 100000 in
theorem zl_185 : zLok (11, 392, 158, 0, 0) := zt5 (List.mem_of_getElem? (i := 59) rfl)
set_option maxRecDepth 100000 in
theorem zl_186 : zLok (11, 396, 87, 0, 0) := zt5 (List.mem_of_getElem? (i := 63) rfl)
set_option maxRecDepth 100000 in
theorem zl_187 : zLok (11, 400, 160, 0, 0) := zt5 (List.mem_of_getElem? (i := 71) rfl)
set_option maxRecDepth 100000 in
theorem zl_188 : zLok (11, 403, 161, 0, 0) := zt5 (List.mem_of_getElem? (i := 75) rfl)
set_option maxRecDepth 100000 in
theorem zl_189 : zLok (11, 407, 88, 0, 0) := zt5 (List.mem_of_getElem? (i := 79) rfl)
set_option maxRecDepth 100000 in
theorem zl_190 : zLok (11, 411, 37, 0, 0) := zt5 (List.mem_of_getElem? (i := 86) rfl)
set_option maxRecDepth 100000 in
theorem zl_191 : zLok (11, 414, 89, 0, 0) := zt5 (List.mem_of_getElem? (i := 94) rfl)
set_option maxRecDepth 100000 in
theorem zl_192 : zLok (11, 417, 85, 0, 0) := zt5 (List.mem_of_getElem? (i := 106) rfl)
set_option maxRecDepth 100000 in
theorem zl_193 : zLok (11, 422, 73, 0, 0) := zt5 (List.mem_of_getElem? (i := 115) rfl)
set_option maxRecDepth 100000 in
theorem zl_194 : zLok (11, 426, 167, 0, 0) := zt5 (List.mem_of_getElem? (i := 123) rfl)
set_option maxRecDepth 100000 in
theorem zl_195 : zLok (11, 432, 31, 0, 0) := zt5 (List.mem_of_getElem? (i := 144) rfl)
set_option maxRecDepth 100000 in
theorem zl_196 : zLok (11, 435, 40, 0, 0) := zt5 (List.mem_of_getElem? (i := 152) rfl)
set_option maxRecDepth 100000 in
theorem zl_197 : zLok (11, 439, 335, 1, 0) := zt5 (List.mem_of_getElem? (i := 164) rfl)
set_option maxRecDepth 100000 in
theorem zl_198 : zLok (11, 444, 41, 0, 0) := zt5 (List.mem_of_getElem? (i := 165) rfl)
set_option maxRecDepth 100000 in
theorem zl_199 : zLok (11, 448, 163, 0, 0) := zt5 (List.mem_of_getElem? (i := 173) rfl)
set_option maxRecDepth 100000 in
theorem zl_200 : zLok (11, 454, 42, 0, 0) := zt5 (List.mem_of_getElem? (i := 178) rfl)
set_option maxRecDepth 100000 in
theorem zl_201 : zLok (11, 460, 178, 0, 0) := zt5 (List.mem_of_getElem? (i := 187) rfl)
set_option maxRecDepth 100000 in
theorem zl_202 : zLok (11, 477, 177, 0, 0) := zt5 (List.mem_of_getElem? (i := 191) rfl)
set_option maxRecDepth 100000 in
theorem zl_203 : zLok (11, 480, 181, 0, 0) := zt5 (List.mem_of_getElem? (i := 208) rfl)
set_option maxRecDepth 100000 in
theorem zl_204 : zLok (11, 483, 182, 0, 0) := zt5 (List.mem_of_getElem? (i := 212) rfl)
set_option maxRecDepth 100000 in
theorem zl_205 : zLok (11, 487, 67, 1, 0) := zt5 (List.mem_of_getElem? (i := 216) rfl)
set_option maxRecDepth 100000 in
theorem zl_206 : zLok (11, 490, 69, 0, 0) := zt5 (List.mem_of_getElem? (i := 217) rfl)
set_option maxRecDepth 100000 in
theorem zl_207 : zLok (11, 493, 70, 0, 0) := zt5 (List.mem_of_getElem? (i := 218) rfl)
set_option maxRecDepth 100000 in
theorem zl_208 : zLok (11, 496, 18, 0, 0) := zt5 (List.mem_of_getElem? (i := 223) rfl)
set_option maxRecDepth 100000 in
theorem zl_209 : zLok (11, 500, 17, 0, 0) := zt6 (List.mem_of_getElem? (i := 2) rfl)
set_option maxRecDepth 100000 in
theorem zl_210 : zLok (11, 503, 23, 1, 0) := zt6 (List.mem_of_getElem? (i := 10) rfl)
set_option maxRecDepth 100000 in
theorem zl_211 : zLok (11, 507, 186, 0, 0) := zt6 (List.mem_of_getElem? (i := 26) rfl)
set_option maxRecDepth 100000 in
theorem zl_212 : zLok (11, 510, 28, 1, 0) := zt6 (List.mem_of_getElem? (i := 30) rfl)
set_option maxRecDepth 100000 in
theorem zl_213 : zLok (11, 514, 29, 1, 0) := zt6 (List.mem_of_getElem? (i := 38) rfl)
set_option maxRecDepth 100000 in
theorem zl_214 : zLok (12, 1, 999, 3, 0) := zt6 (List.mem_of_getElem? (i := 46) rfl)
set_option maxRecDepth 100000 in
theorem zl_215 : zLok (12, 260, 194, 0, 0) := zt7 (List.mem_of_getElem? (i := 120) rfl)
set_option maxRecDepth 100000 in
theorem zl_216 : zLok (12, 264, 192, 1, 0) := zt7 (List.mem_of_getElem? (i := 140) rfl)
set_option maxRecDepth 100000 in
theorem zl_217 : zLok (12, 271, 195, 0, 0) := zt7 (List.mem_of_getElem? (i := 136) rfl)
set_option maxRecDepth 100000 in
theorem zl_218 : zLok (12, 275, 196, 0, 0) := zt7 (List.mem_of_getElem? (i := 132) rfl)
set_option maxRecDepth 100000 in
theorem zl_219 : zLok (12, 278, 191, 0, 0) := zt7 (List.mem_of_getElem? (i := 128) rfl)
set_option maxRecDepth 100000 in
theorem zl_220 : zLok (12, 282, 198, 0, 0) := zt7 (List.mem_of_getElem? (i := 207) rfl)
set_option maxRecDepth 100000 in
theorem zl_221 : zLok (12, 285, 193, 1, 0) := zt7 (List.mem_of_getElem? (i := 177) rfl)
set_option maxRecDepth 100000 in
theorem zl_222 : zLok (12, 291, 188, 1, 0) := zt7 (List.mem_of_getElem? (i := 180) rfl)
set_option maxRecDepth 100000 in
theorem zl_223 : zLok (12, 295, 201, 0, 0) := zt7 (List.mem_of_getElem? (i := 159) rfl)
set_option maxRecDepth 100000 in
theorem zl_224 : zLok (12, 312, 202, 0, 0) := zt7 (List.mem_of_getElem? (i := 155) rfl)
set_option maxRecDepth 100000 in
theorem zl_225 : zLok (12, 316, 204, 0, 0) := zt7 (List.mem_of_getElem? (i := 165) rfl)
set_option maxRecDepth 100000 in
theorem zl_226 : zLok (12, 320, 200, 0, 0) := zt7 (List.mem_of_getElem? (i := 173) rfl)
set_option maxRecDepth 100000 in
theorem zl_227 : zLok (12, 324, 206, 0, 0) := zt7 (List.mem_of_getElem? (i := 147) rfl)
set_option maxRecDepth 100000 in
theorem zl_228 : zLok (12, 328, 205, 0, 0) := zt7 (List.mem_of_getElem? (i := 151) rfl)
set_option maxRecDepth 100000 in
theorem zl_229 : zLok (12, 332, 197, 0, 0) := zt7 (List.mem_of_getElem? (i := 169) rfl)
set_option maxRecDepth 100000 in
theorem zl_230 : zLok (12, 336, 207, 0, 0) := zt7 (List.mem_of_getElem? (i := 183) rfl)
set_option maxRecDepth 100000 in
theorem zl_231 : zLok (12, 340, 208, 0, 0) := zt7 (List.mem_of_getElem? (i := 143) rfl)
set_option maxRecDepth 100000 in
theorem zl_232 : zLok (12, 344, 209, 0, 0) := zt7 (List.mem_of_getElem? (i := 187) rfl)
set_option maxRecDepth 100000 in
theorem zl_233 : zLok (12, 347, 211, 0, 0) := zt7 (List.mem_of_getElem? (i := 191) rfl)
set_option maxRecDepth 100000 in
theorem zl_234 : zLok (12, 350, 212, 0, 0) := zt7 (List.mem_of_getElem? (i := 195) rfl)
set_option maxRecDepth 100000 in
theorem zl_235 : zLok (12, 353, 210, 0, 0) := zt7 (List.mem_of_getElem? (i := 199) rfl)
set_option maxRecDepth 100000 in
theorem zl_236 : zLok (12, 356, 199, 0, 0) := zt7 (List.mem_of_getElem? (i := 203) rfl)
set_option maxRecDepth 100000 in
theorem zl_237 : zLok (12, 359, 203, 0, 0) := zt7 (List.mem_of_getElem? (i := 116) rfl)
set_option maxRecDepth 100000 in
theorem zl_238 : zLok (12, 362, 213, 0, 0) := zt7 (List.mem_of_getElem? (i := 124) rfl)
set_option maxRecDepth 100000 in
theorem zl_239 : zLok (12, 368, 215, 0, 0) := zt7 (List.mem_of_getElem? (i := 211) rfl)
set_option maxRecDepth 100000 in
theorem zl_240 : zLok (12, 389, 216, 0, 0) := zt8 (List.mem_of_getElem? (i := 4) rfl)
set_option maxRecDepth 100000 in
theorem zl_241 : zLok (12, 395, 220, 0, 0) := zt8 (List.mem_of_getElem? (i := 24) rfl)
set_option maxRecDepth 100000 in
theorem zl_242 : zLok (12, 398, 219, 0, 0) := zt8 (List.mem_of_getElem? (i := 32) rfl)
set_option maxRecDepth 100000 in
theorem zl_243 : zLok (12, 401, 217, 0, 0) := zt7 (List.mem_of_getElem? (i := 236) rfl)
set_option maxRecDepth 100000 in
theorem zl_244 : zLok (12, 404, 221, 0, 0) := zt8 (List.mem_of_getElem? (i := 20) rfl)
set_option maxRecDepth 100000 in
theorem zl_245 : zLok (12, 407, 222, 0, 0) := zt8 (List.mem_of_getElem? (i := 28) rfl)
set_option maxRecDepth 100000 in
theorem zl_246 : zLok (12, 410, 218, 0, 0) := zt8 (List.mem_of_getElem? (i := 36) rfl)
set_option maxRecDepth 100000 in
theorem zl_247 : zLok (12, 413, 223, 0, 0) := zt8 (List.mem_of_getElem? (i := 12) rfl)
set_option maxRecDepth 100000 in
theorem zl_248 : zLok (12, 416, 224, 0, 0) := zt8 (List.mem_of_getElem? (i := 16) rfl)
set_option maxRecDepth 100000 in
theorem zl_249 : zLok (12, 419, 225, 0, 0) := zt8 (List.mem_of_getElem? (i := 8) rfl)
set_option maxRecDepth 100000 in
theorem zl_250 : zLok (12, 422, 226, 0, 0) := zt8 (List.mem_of_getElem? (i := 0) rfl)
set_option maxRecDepth 100000 in
theorem zl_251 : zLok (12, 425, 228, 0, 0) := zt8 (List.mem_of_getElem? (i := 40) rfl)
set_option maxRecDepth 100000 in
theorem zl_252 : zLok (12, 428, 230, 0, 0) := zt8 (List.mem_of_getElem? (i := 44) rfl)
set_option maxRecDepth 100000 in
theorem zl_253 : zLok (12, 431, 227, 0, 0) := zt8 (List.mem_of_getElem? (i := 48) rfl)
set_option maxRecDepth 100000 in
theorem zl_254 : zLok (12, 434, 231, 0, 0) := zt7 (List.mem_of_getElem? (i := 228) rfl)
set_option maxRecDepth 100000 in
theorem zl_255 : zLok (12, 437, 232, 0, 0) := zt7 (List.mem_of_getElem? (i := 224) rfl)
set_option maxRecDepth 100000 in
theorem zl_256 : zLok (12, 440, 229, 0, 0) := zt7 (List.mem_of_getElem? (i := 232) rfl)
set_option maxRecDepth 100000 in
theorem zl_257 : zLok (12, 445, 233, 0, 0) := zt7 (List.mem_of_getElem? (i := 220) rfl)
set_option maxRecDepth 100000 in
theorem zl_258 : zLok (12, 450, 236, 0, 0) := zt8 (List.mem_of_getElem? (i := 96) rfl)
set_option maxRecDepth 100000 in
theorem zl_259 : zLok (12, 457, 242, 0, 0) := zt8 (List.mem_of_getElem? (i := 69) rfl)
set_option maxRecDepth 100000 in
theorem zl_260 : zLok (12, 461, 241, 0, 0) := zt8 (List.mem_of_getElem? (i := 75) rfl)
set_option maxRecDepth 100000 in
theorem zl_261 : zLok (12, 465, 239, 0, 0) := zt8 (List.mem_of_getElem? (i := 83) rfl)
set_option maxRecDepth 100000 in
theorem zl_262 : zLok (12, 470, 240, 0, 0) := zt8 (List.mem_of_getElem? (i := 92) rfl)
set_option maxRecDepth 100000 in
theorem zl_263 : zLok (12, 475, 246, 0, 0) := zt8 (List.mem_of_getElem? (i := 105) rfl)
set_option maxRecDepth 100000 in
theorem zl_264 : zLok (12, 480, 248, 1, 0) := zt8 (List.mem_of_getElem? (i := 118) rfl)
set_option maxRecDepth 100000 in
theorem zl_265 : zLok (12, 483, 250, 0, 0) := zt8 (List.mem_of_getElem? (i := 134) rfl)
set_option maxRecDepth 100000 in
theorem zl_266 : zLok (12, 487, 251, 0, 0) := zt8 (List.mem_of_getElem? (i := 130) rfl)
set_option maxRecDepth 100000 in
theorem zl_267 : zLok (12, 490, 252, 0, 0) := zt8 (List.mem_of_getElem? (i := 126) rfl)
set_option maxRecDepth 100000 in
theorem zl_268 : zLok (12, 494, 249, 0, 0) := zt8 (List.mem_of_getElem? (i := 113) rfl)
set_option maxRecDepth 100000 in
theorem zl_269 : zLok (12, 499, 253, 0, 0) := zt8 (List.mem_of_getElem? (i := 122) rfl)
set_option maxRecDepth 100000 in
theorem zl_270 : zLok (12, 505, 255, 0, 0) := zt8 (List.mem_of_getElem? (i := 148) rfl)
set_option maxRecDepth 100000 in
theorem zl_271 : zLok (12, 511, 256, 1, 0) := zt8 (List.mem_of_getElem? (i := 153) rfl)
set_option maxRecDepth 100000 in
theorem zl_272 : zLok (12, 516, 257, 0, 0) := zt8 (List.mem_of_getElem? (i := 143) rfl)
set_option maxRecDepth 100000 in
theorem zl_273 : zLok (12, 519, 258, 0, 0) := zt8 (List.mem_of_getElem? (i := 156) rfl)
set_option maxRecDepth 100000 in
theorem zl_274 : zLok (12, 522, 260, 0, 0) := zt8 (List.mem_of_getElem? (i := 172) rfl)
set_option maxRecDepth 100000 in
theorem zl_275 : zLok (12, 525, 261, 0, 0) := zt8 (List.mem_of_getElem? (i := 168) rfl)
set_option maxRecDepth 100000 in
theorem zl_276 : zLok (12, 528, 262, 0, 0) := zt8 (List.mem_of_getElem? (i := 164) rfl)
set_option maxRecDepth 100000 in
theorem zl_277 : zLok (12, 538, 264, 1, 0) := zt8 (List.mem_of_getElem? (i := 207) rfl)
set_option maxRecDepth 100000 in
theorem zl_278 : zLok (12, 542, 266, 0, 0) := zt8 (List.mem_of_getElem? (i := 192) rfl)
set_option maxRecDepth 100000 in
theorem zl_279 : zLok (12, 546, 265, 1, 0) := zt8 (List.mem_of_getElem? (i := 212) rfl)
set_option maxRecDepth 100000 in
theorem zl_280 : zLok (12, 555, 269, 0, 0) := zt8 (List.mem_of_getElem? (i := 199) rfl)
set_option maxRecDepth 100000 in
theorem zl_281 : zLok (12, 558, 267, 0, 0) := zt8 (List.mem_of_getElem? (i := 203) rfl)
set_option maxRecDepth 100000 in
theorem zl_282 : zLok (12, 561, 268, 0, 0) := zt8 (List.mem_of_getElem? (i := 188) rfl)
set_option maxRecDepth 100000 in
theorem zl_283 : zLok (12, 564, 270, 0, 0) := zt8 (List.mem_of_getElem? (i := 215) rfl)
set_option maxRecDepth 100000 in
theorem zl_284 : zLok (12, 567, 272, 0, 0) := zt8 (List.mem_of_getElem? (i := 180) rfl)
set_option maxRecDepth 100000 in
theorem zl_285 : zLok (12, 570, 271, 0, 0) := zt8 (List.mem_of_getElem? (i := 184) rfl)
set_option maxRecDepth 100000 in
theorem zl_286 : zLok (12, 573, 275, 0, 0) := zt8 (List.mem_of_getElem? (i := 223) rfl)
set_option maxRecDepth 100000 in
theorem zl_287 : zLok (12, 576, 274, 0, 0) := zt8 (List.mem_of_getElem? (i := 227) rfl)
set_option maxRecDepth 100000 in
theorem zl_288 : zLok (12, 579, 277, 0, 0) := zt8 (List.mem_of_getElem? (i := 235) rfl)
set_option maxRecDepth 100000 in
theorem zl_289 : zLok (12, 582, 237, 0, 0) := zt8 (List.mem_of_getElem? (i := 239) rfl)
set_option maxRecDepth 100000 in
theorem zl_290 : zLok (12, 587, 279, 0, 0) := zt9 (List.mem_of_getElem? (i := 13) rfl)
set_option maxRecDepth 100000 in
theorem zl_291 : zLok (12, 590, 280, 0, 0) := zt9 (List.mem_of_getElem? (i := 8) rfl)
set_option maxRecDepth 100000 in
theorem zl_292 : zLok (12, 594, 282, 0, 0) := zt9 (List.mem_of_getElem? (i := 4) rfl)
set_option maxRecDepth 100000 in
theorem zl_293 : zLok (12, 598, 281, 0, 0) := zt9 (List.mem_of_getElem? (i := 29) rfl)
set_option maxRecDepth 100000 in
theorem zl_294 : zLok (12, 601, 285, 0, 0) := zt9 (List.mem_of_getElem? (i := 25) rfl)
set_option maxRecDepth 100000 in
theorem zl_295 : zLok (12, 604, 291, 0, 0) := zt9 (List.mem_of_getElem? (i := 57) rfl)
set_option maxRecDepth 100000 in
theorem zl_296 : zLok (12, 607, 292, 0, 0) := zt9 (List.mem_of_getElem? (i := 53) rfl)
set_option maxRecDepth 100000 in
theorem zl_297 : zLok (12, 610, 290, 0, 0) := zt9 (List.mem_of_getElem? (i := 49) rfl)
set_option maxRecDepth 100000 in
theorem zl_298 : zLok (12, 613, 293, 0, 0) := zt9 (List.mem_of_getElem? (i := 61) rfl)
set_option maxRecDepth 100000 in
theorem zl_299 : zLok (12, 617, 295, 0, 0) := zt9 (List.mem_of_getElem? (i := 69) rfl)
set_option maxRecDepth 100000 in
theorem zl_300 : zLok (12, 621, 296, 0, 0) := zt9 (List.mem_of_getElem? (i := 77) rfl)
set_option maxRecDepth 100000 in
theorem zl_301 : zLok (12, 626, 301, 0, 0) := zt9 (List.mem_of_getElem? (i := 95) rfl)
set_option maxRecDepth 100000 in
theorem zl_302 : zLok (12, 629, 288, 0, 0) := zt9 (List.mem_of_getElem? (i := 107) rfl)
set_option maxRecDepth 100000 in
theorem zl_303 : zLok (12, 646, 306, 0, 0) := zt9 (List.mem_of_getElem? (i := 121) rfl)
set_option maxRecDepth 100000 in
theorem zl_304 : zLok (12, 649, 307, 0, 0) := zt9 (List.mem_of_getElem? (i := 117) rfl)
set_option maxRecDepth 100000 in
theorem zl_305 : zLok (12, 656, 311, 0, 0) := zt9 (List.mem_of_getElem? (i := 141) rfl)
set_option maxRecDepth 100000 in
theorem zl_306 : zLok (12, 659, 312, 0, 0) := zt9 (List.mem_of_getElem? (i := 145) rfl)
set_option maxRecDepth 100000 in
theorem zl_307 : zLok (12, 662, 313, 1, 0) := zt9 (List.mem_of_getElem? (i := 149) rfl)
set_option maxRecDepth 100000 in
theorem zl_308 : zLok (12, 665, 316, 0, 0) := zt9 (List.mem_of_getElem? (i := 168) rfl)
set_option maxRecDepth 100000 in
theorem zl_309 : zLok (12, 668, 317, 0, 0) := zt9 (List.mem_of_getElem? (i := 164) rfl)
set_option maxRecDepth 100000 in
theorem zl_310 : zLok (12, 671, 318, 0, 0) := zt9 (List.mem_of_getElem? (i := 160) rfl)
set_option maxRecDepth 100000 in
theorem zl_311 : zLok (13, 335, 330, 0, 0) := zt1 (List.mem_of_getElem? (i := 41) rfl)
set_option maxRecDepth 100000 in
theorem zl_312 : zLok (13, 492, 331, 0, 0) := zt1 (List.mem_of_getElem? (i := 51) rfl)
set_option maxRecDepth 100000 in
theorem zl_313 : zLok (13, 495, 333, 1, 0) := zt1 (List.mem_of_getElem? (i := 55) rfl)
set_option maxRecDepth 100000 in
theorem zl_314 : zLok (13, 1059, 337, 1, 0) := zt1 (List.mem_of_getElem? (i := 63) rfl)
set_option maxRecDepth 100000 in
theorem zl_315 : zLok (14, 9, 332, 1, 0) := zt1 (List.mem_of_getElem? (i := 58) rfl)
set_option maxRecDepth 100000 in
theorem zl_316 : zLok (17, 304, 326, 1, 0) := zt3 (List.mem_of_getElem? (i := 227) rfl)
set_option maxRecDepth 100000 in
theorem zl_317 : zLok (17, 150, 998, 4, 0) := zt3 (List.mem_of_getElem? (i := 228) rfl)
set_option maxRecDepth 100000 in
theorem zl_318 : zLok (19, 9, 112, 2, 0) := zt1 (List.mem_of_getElem? (i := 24) rfl)
set_option maxRecDepth 100000 in
theorem zl_319 : zLok (19, 12, 187, 2, 0) := zt6 (List.mem_of_getElem? (i := 43) rfl)
set_option maxRecDepth 100000 in
theorem zl_320 : zLok (19, 13, 113, 0, 0) := zt2 (List.mem_of_getElem? (i := 220) rfl)
set_option maxRecDepth 100000 in
theorem zl_321 : zLok (19, 17, 189, 0, 0) := zt7 (List.mem_of_getElem? (i := 104) rfl)
set_option maxRecDepth 100000 in
theorem zl_322 : zLok (19, 18, 115, 0, 0) := zt2 (List.mem_of_getElem? (i := 228) rfl)
set_option maxRecDepth 100000 in
theorem zl_323 : zLok (19, 22, 190, 0, 0) := zt7 (List.mem_of_getElem? (i := 108) rfl)
set_option maxRecDepth 100000 in
theorem zl_324 : zLok (19, 23, 117, 0, 0) := zt2 (List.mem_of_getElem? (i := 232) rfl)
set_option maxRecDepth 100000 in
theorem zl_325 : zLok (19, 27, 214, 0, 0) := zt7 (List.mem_of_getElem? (i := 112) rfl)
set_option maxRecDepth 100000 in
theorem zl_326 : zLok (19, 28, 118, 0, 0) := zt3 (List.mem_of_getElem? (i := 147) rfl)
set_option maxRecDepth 100000 in
theorem zl_327 : zLok (19, 32, 234, 0, 0) := zt7 (List.mem_of_getElem? (i := 215) rfl)
set_option maxRecDepth 100000 in
theorem zl_328 : zLok (19, 33, 120, 0, 0) := zt3 (List.mem_of_getElem? (i := 231) rfl)
set_option maxRecDepth 100000 in
theorem zl_329 : zLok (19, 36, 235, 0, 0) := zt8 (List.mem_of_getElem? (i := 52) rfl)
set_option maxRecDepth 100000 in
theorem zl_330 : zLok (19, 37, 121, 0, 0) := zt3 (List.mem_of_getElem? (i := 235) rfl)
set_option maxRecDepth 100000 in
theorem zl_331 : zLok (19, 40, 237, 0, 0) := zt8 (List.mem_of_getElem? (i := 56) rfl)
set_option maxRecDepth 100000 in
theorem zl_332 : zLok (19, 41, 123, 0, 0) := zt4 (List.mem_of_getElem? (i := 23) rfl)
set_option maxRecDepth 100000 in
theorem zl_333 : zLok (19, 45, 238, 0, 0) := zt8 (List.mem_of_getElem? (i := 60) rfl)
set_option maxRecDepth 100000 in
theorem zl_334 : zLok (19, 46, 136, 0, 0) := zt4 (List.mem_of_getElem? (i := 46) rfl)
set_option maxRecDepth 100000 in
theorem zl_335 : zLok (19, 50, 243, 0, 0) := zt8 (List.mem_of_getElem? (i := 65) rfl)
set_option maxRecDepth 100000 in
theorem zl_336 : zLok (19, 51, 137, 0, 0) := zt4 (List.mem_of_getElem? (i := 59) rfl)
set_option maxRecDepth 100000 in
theorem zl_337 : zLok (19, 54, 244, 0, 0) := zt8 (List.mem_of_getElem? (i := 79) rfl)
set_option maxRecDepth 100000 in
theorem zl_338 : zLok (19, 55, 138, 0, 0) := zt4 (List.mem_of_getElem? (i := 70) rfl)
set_option maxRecDepth 100000 in
theorem zl_339 : zLok (19, 58, 245, 0, 0) := zt8 (List.mem_of_getElem? (i := 88) rfl)
set_option maxRecDepth 100000 in
theorem zl_340 : zLok (19, 59, 139, 0, 0) := zt4 (List.mem_of_getElem? (i := 77) rfl)
set_option maxRecDepth 100000 in
theorem zl_341 : zLok (19, 62, 247, 0, 0) := zt8 (List.mem_of_getElem? (i := 101) rfl)
set_option maxRecDepth 100000 in
theorem zl_342 : zLok (19, 63, 140, 0, 0) := zt4 (List.mem_of_getElem? (i := 85) rfl)
set_option maxRecDepth 100000 in
theorem zl_343 : zLok (19, 67, 254, 0, 0) := zt8 (List.mem_of_getElem? (i := 109) rfl)
set_option maxRecDepth 100000 in
theorem zl_344 : zLok (19, 68, 142, 0, 0) := zt4 (List.mem_of_getElem? (i := 155) rfl)
set_option maxRecDepth 100000 in
theorem zl_345 : zLok (19, 71, 283, 0, 0) := zt9 (List.mem_of_getElem? (i := 0) rfl)
set_option maxRecDepth 100000 in
theorem zl_346 : zLok (19, 72, 143, 0, 0) := zt4 (List.mem_of_getElem? (i := 167) rfl)
set_option maxRecDepth 100000 in
theorem zl_347 : zLok (19, 75, 284, 0, 0) := zt9 (List.mem_of_getElem? (i := 17) rfl)
set_option maxRecDepth 100000 in
theorem zl_348 : zLok (19, 76, 144, 0, 0) := zt4 (List.mem_of_getElem? (i := 171) rfl)
set_option maxRecDepth 100000 in
theorem zl_349 : zLok (19, 80, 259, 0, 0) := zt8 (List.mem_of_getElem? (i := 138) rfl)
set_option maxRecDepth 100000 in
theorem zl_350 : zLok (19, 81, 149, 0, 0) := zt4 (List.mem_of_getElem? (i := 219) rfl)
set_option maxRecDepth 100000 in
theorem zl_351 : zLok (19, 85, 263, 0, 0) := zt8 (List.mem_of_getElem? (i := 160) rfl)
set_option maxRecDepth 100000 in
theorem zl_352 : zLok (19, 86, 152, 0, 0) := zt5 (List.mem_of_getElem? (i := 0) rfl)
set_option maxRecDepth 100000 in
theorem zl_353 : zLok (19, 89, 273, 0, 0) := zt8 (List.mem_of_getElem? (i := 176) rfl)
set_option maxRecDepth 100000 in
theorem zl_354 : zLok (19, 90, 154, 0, 0) := zt5 (List.mem_of_getElem? (i := 41) rfl)
set_option maxRecDepth 100000 in
theorem zl_355 : zLok (19, 93, 276, 0, 0) := zt8 (List.mem_of_getElem? (i := 219) rfl)
set_option maxRecDepth 100000 in
theorem zl_356 : zLok (19, 94, 156, 0, 0) := zt5 (List.mem_of_getElem? (i := 51) rfl)
set_option maxRecDepth 100000 in
theorem zl_357 : zLok (19, 97, 278, 0, 0) := zt8 (List.mem_of_getElem? (i := 231) rfl)
set_option maxRecDepth 100000 in
theorem zl_358 : zLok (19, 98, 159, 0, 0) := zt5 (List.mem_of_getElem? (i := 67) rfl)
set_option maxRecDepth 100000 in
theorem zl_359 : zLok (19, 102, 286, 0, 0) := zt9 (List.mem_of_getElem? (i := 21) rfl)
set_option maxRecDepth 100000 in
theorem zl_360 : zLok (19, 103, 162, 0, 0) := zt5 (List.mem_of_getElem? (i := 90) rfl)
set_option maxRecDepth 100000 in
theorem zl_361 : zLok (19, 106, 287, 0, 0) := zt9 (List.mem_of_getElem? (i := 33) rfl)
set_option maxRecDepth 100000 in
theorem zl_362 : zLok (19, 107, 163, 0, 0) := zt5 (List.mem_of_getElem? (i := 102) rfl)
set_option maxRecDepth 100000 in
theorem zl_363 : zLok (19, 110, 288, 0, 0) := zt9 (List.mem_of_getElem? (i := 37) rfl)
set_option maxRecDepth 100000 in
theorem zl_364 : zLok (19, 111, 164, 0, 0) := zt5 (List.mem_of_getElem? (i := 107) rfl)
set_option maxRecDepth 100000 in
theorem zl_365 : zLok (19, 114, 289, 0, 0) := zt9 (List.mem_of_getElem? (i := 41) rfl)
set_option maxRecDepth 100000 in
theorem zl_366 : zLok (19, 115, 165, 0, 0) := zt5 (List.mem_of_getElem? (i := 111) rfl)
set_option maxRecDepth 100000 in
theorem zl_367 : zLok (19, 119, 294, 0, 0) := zt9 (List.mem_of_getElem? (i := 45) rfl)
set_option maxRecDepth 100000 in
theorem zl_368 : zLok (19, 120, 166, 0, 0) := zt5 (List.mem_of_getElem? (i := 119) rfl)
set_option maxRecDepth 100000 in
theorem zl_369 : zLok (19, 123, 296, 0, 0) := zt9 (List.mem_of_getElem? (i := 65) rfl)
set_option maxRecDepth 100000 in
theorem zl_370 : zLok (19, 124, 168, 0, 0) := zt5 (List.mem_of_getElem? (i := 128) rfl)
set_option maxRecDepth 100000 in
theorem zl_371 : zLok (19, 127, 297, 0, 0) := zt9 (List.mem_of_getElem? (i := 73) rfl)
set_option maxRecDepth 100000 in
theorem zl_372 : zLok (19, 128, 169, 0, 0) := zt5 (List.mem_of_getElem? (i := 132) rfl)
set_option maxRecDepth 100000 in
theorem zl_373 : zLok (19, 131, 298, 0, 0) := zt9 (List.mem_of_getElem? (i := 78) rfl)
set_option maxRecDepth 100000 in
theorem zl_374 : zLok (19, 132, 170, 0, 0) := zt5 (List.mem_of_getElem? (i := 136) rfl)
set_option maxRecDepth 100000 in
theorem zl_375 : zLok (19, 135, 299, 0, 0) := zt9 (List.mem_of_getElem? (i := 83) rfl)
set_option maxRecDepth 100000 in
theorem zl_376 : zLok (19, 136, 171, 0, 0) := zt5 (List.mem_of_getElem? (i := 140) rfl)
set_option maxRecDepth 100000 in
theorem zl_377 : zLok (19, 139, 300, 0, 0) := zt9 (List.mem_of_getElem? (i := 87) rfl)
set_option maxRecDepth 100000 in
theorem zl_378 : zLok (19, 140, 172, 0, 0) := zt5 (List.mem_of_getElem? (i := 148) rfl)
set_option maxRecDepth 100000 in
theorem zl_379 : zLok (19, 143, 302, 0, 0) := zt9 (List.mem_of_getElem? (i := 91) rfl)
set_option maxRecDepth 100000 in
theorem zl_380 : zLok (19, 144, 173, 0, 0) := zt5 (List.mem_of_getElem? (i := 160) rfl)
set_option maxRecDepth 100000 in
theorem zl_381 : zLok (19, 147, 303, 0, 0) := zt9 (List.mem_of_getElem? (i := 99) rfl)
set_option maxRecDepth 100000 in
theorem zl_382 : zLok (19, 148, 174, 0, 0) := zt5 (List.mem_of_getElem? (i := 169) rfl)
set_option maxRecDepth 100000 in
theorem zl_383 : zLok (19, 151, 304, 0, 0) := zt9 (List.mem_of_getElem? (i := 103) rfl)
set_option maxRecDepth 100000 in
theorem zl_384 : zLok (19, 152, 175, 0, 0) := zt5 (List.mem_of_getElem? (i := 174) rfl)
set_option maxRecDepth 100000 in
theorem zl_385 : zLok (19, 155, 305, 0, 0) := zt9 (List.mem_of_getElem? (i := 109) rfl)
set_option maxRecDepth 100000 in
theorem zl_386 : zLok (19, 156, 176, 0, 0) := zt5 (List.mem_of_getElem? (i := 183) rfl)
set_option maxRecDepth 100000 in
theorem zl_387 : zLok (19, 159, 308, 0, 0) := zt9 (List.mem_of_getElem? (i := 113) rfl)
set_option maxRecDepth 100000 in
theorem zl_388 : zLok (19, 160, 179, 0, 0) := zt5 (List.mem_of_getElem? (i := 200) rfl)
set_option maxRecDepth 100000 in
theorem zl_389 : zLok (19, 163, 309, 0, 0) := zt9 (List.mem_of_getElem? (i := 129) rfl)
set_option maxRecDepth 100000 in
theorem zl_390 : zLok (19, 164, 180, 0, 0) := zt5 (List.mem_of_getElem? (i := 204) rfl)
set_option maxRecDepth 100000 in
theorem zl_391 : zLok (19, 167, 310, 0, 0) := zt9 (List.mem_of_getElem? (i := 133) rfl)
set_option maxRecDepth 100000 in
theorem zl_392 : zLok (19, 168, 183, 0, 0) := zt5 (List.mem_of_getElem? (i := 219) rfl)
set_option maxRecDepth 100000 in
theorem zl_393 : zLok (19, 171, 314, 0, 0) := zt9 (List.mem_of_getElem? (i := 137) rfl)
set_option maxRecDepth 100000 in
theorem zl_394 : zLok (19, 172, 184, 0, 0) := zt5 (List.mem_of_getElem? (i := 238) rfl)
set_option maxRecDepth 100000 in
theorem zl_395 : zLok (19, 175, 315, 0, 0) := zt9 (List.mem_of_getElem? (i := 152) rfl)
set_option maxRecDepth 100000 in
theorem zl_396 : zLok (19, 176, 185, 0, 0) := zt6 (List.mem_of_getElem? (i := 6) rfl)
set_option maxRecDepth 100000 in
theorem zl_397 : zLok (19, 180, 319, 0, 0) := zt9 (List.mem_of_getElem? (i := 156) rfl)
set_option maxRecDepth 100000 in
theorem zML_ok : ∀ e ∈ zMLT, zLok e := List.forall_mem_cons.mpr ⟨zl_0, List.forall_mem_cons.mpr ⟨zl_1, List.forall_mem_cons.mpr ⟨zl_2, List.forall_mem_cons.mpr ⟨zl_3, List.forall_mem_cons.mpr ⟨zl_4, List.forall_mem_cons.mpr ⟨zl_5, List.forall_mem_cons.mpr ⟨zl_6, List.forall_mem_cons.mpr ⟨zl_7, List.forall_mem_cons.mpr ⟨zl_8, List.forall_mem_cons.mpr ⟨zl_9, List.forall_mem_cons.mpr ⟨zl_10, List.forall_mem_cons.mpr ⟨zl_11, List.forall_mem_cons.mpr ⟨zl_12, List.forall_mem_cons.mpr ⟨zl_13, List.forall_mem_cons.mpr ⟨zl_14, List.forall_mem_cons.mpr ⟨zl_15, List.forall_mem_cons.mpr ⟨zl_16, List.forall_mem_cons.mpr ⟨zl_17, List.forall_mem_cons.mpr ⟨zl_18, List.forall_mem_cons.mpr ⟨zl_19, List.forall_mem_cons.mpr ⟨zl_20, List.forall_mem_cons.mpr ⟨zl_21, List.forall_mem_cons.mpr ⟨zl_22, List.forall_mem_cons.mpr ⟨zl_23, List.forall_mem_cons.mpr ⟨zl_24, List.forall_mem_cons.mpr ⟨zl_25, List.forall_mem_cons.mpr ⟨zl_26, List.forall_mem_cons.mpr ⟨zl_27, List.forall_mem_cons.mpr ⟨zl_28, List.forall_mem_cons.mpr ⟨zl_29, List.forall_mem_cons.mpr ⟨zl_30, List.forall_mem_cons.mpr ⟨zl_31, List.forall_mem_cons.mpr ⟨zl_32, List.forall_mem_cons.mpr ⟨zl_33, List.forall_mem_cons.mpr ⟨zl_34, List.forall_mem_cons.mpr ⟨zl_35, List.forall_mem_cons.mpr ⟨zl_36, List.forall_mem_cons.mpr ⟨zl_37, List.forall_mem_cons.mpr ⟨zl_38, List.forall_mem_cons.mpr ⟨zl_39, List.forall_mem_cons.mpr ⟨zl_40, List.forall_mem_cons.mpr ⟨zl_41, List.forall_mem_cons.mpr ⟨zl_42, List.forall_mem_cons.mpr ⟨zl_43, List.forall_mem_cons.mpr ⟨zl_44, List.forall_mem_cons.mpr ⟨zl_45, List.forall_mem_cons.mpr ⟨zl_46, List.forall_mem_cons.mpr ⟨zl_47, List.forall_mem_cons.mpr ⟨zl_48, List.forall_mem_cons.mpr ⟨zl_49, List.forall_mem_cons.mpr ⟨zl_50, List.forall_mem_cons.mpr ⟨zl_51, List.forall_mem_cons.mpr ⟨zl_52, List.forall_mem_cons.mpr ⟨zl_53, List.forall_mem_cons.mpr ⟨zl_54, List.forall_mem_cons.mpr ⟨zl_55, List.forall_mem_cons.mpr ⟨zl_56, List.forall_mem_cons.mpr ⟨zl_57, List.forall_mem_cons.mpr ⟨zl_58, List.forall_mem_cons.mpr ⟨zl_59, List.forall_mem_cons.mpr ⟨zl_60, List.forall_mem_cons.mpr ⟨zl_61, List.forall_mem_cons.mpr ⟨zl_62, List.forall_mem_cons.mpr ⟨zl_63, List.forall_mem_cons.mpr ⟨zl_64, List.forall_mem_cons.mpr ⟨zl_65, List.forall_mem_cons.mpr ⟨zl_66, List.forall_mem_cons.mpr ⟨zl_67, List.forall_mem_cons.mpr ⟨zl_68, List.forall_mem_cons.mpr ⟨zl_69, List.forall_mem_cons.mpr ⟨zl_70, List.forall_mem_cons.mpr ⟨zl_71, List.forall_mem_cons.mpr ⟨zl_72, List.forall_mem_cons.mpr ⟨zl_73, List.forall_mem_cons.mpr ⟨zl_74, List.forall_mem_cons.mpr ⟨zl_75, List.forall_mem_cons.mpr ⟨zl_76, List.forall_mem_cons.mpr ⟨zl_77, List.forall_mem_cons.mpr ⟨zl_78, List.forall_mem_cons.mpr ⟨zl_79, List.forall_mem_cons.mpr ⟨zl_80, List.forall_mem_cons.mpr ⟨zl_81, List.forall_mem_cons.mpr ⟨zl_82, List.forall_mem_cons.mpr ⟨zl_83, List.forall_mem_cons.mpr ⟨zl_84, List.forall_mem_cons.mpr ⟨zl_85, List.forall_mem_cons.mpr ⟨zl_86, List.forall_mem_cons.mpr ⟨zl_87, List.forall_mem_cons.mpr ⟨zl_88, List.forall_mem_cons.mpr ⟨zl_89, List.forall_mem_cons.mpr ⟨zl_90, List.forall_mem_cons.mpr ⟨zl_91, List.forall_mem_cons.mpr ⟨zl_92, List.forall_mem_cons.mpr ⟨zl_93, List.forall_mem_cons.mpr ⟨zl_94, List.forall_mem_cons.mpr ⟨zl_95, List.forall_mem_cons.mpr ⟨zl_96, List.forall_mem_cons.mpr ⟨zl_97, List.forall_mem_cons.mpr ⟨zl_98, List.forall_mem_cons.mpr ⟨zl_99, List.forall_mem_cons.mpr ⟨zl_100, List.forall_mem_cons.mpr ⟨zl_101, List.forall_mem_cons.mpr ⟨zl_102, List.forall_mem_cons.mpr ⟨zl_103, List.forall_mem_cons.mpr ⟨zl_104, List.forall_mem_cons.mpr ⟨zl_105, List.forall_mem_cons.mpr ⟨zl_106, List.forall_mem_cons.mpr ⟨zl_107, List.forall_mem_cons.mpr ⟨zl_108, List.forall_mem_cons.mpr ⟨zl_109, List.forall_mem_cons.mpr ⟨zl_110, List.forall_mem_cons.mpr ⟨zl_111, List.forall_mem_cons.mpr ⟨zl_112, List.forall_mem_cons.mpr ⟨zl_113, List.forall_mem_cons.mpr ⟨zl_114, List.forall_mem_cons.mpr ⟨zl_115, List.forall_mem_cons.mpr ⟨zl_116, List.forall_mem_cons.mpr ⟨zl_117, List.forall_mem_cons.mpr ⟨zl_118, List.forall_mem_cons.mpr ⟨zl_119, List.forall_mem_cons.mpr ⟨zl_120, List.forall_mem_cons.mpr ⟨zl_121, List.forall_mem_cons.mpr ⟨zl_122, List.forall_mem_cons.mpr ⟨zl_123, List.forall_mem_cons.mpr ⟨zl_124, List.forall_mem_cons.mpr ⟨zl_125, List.forall_mem_cons.mpr ⟨zl_126, List.forall_mem_cons.mpr ⟨zl_127, List.forall_mem_cons.mpr ⟨zl_128, List.forall_mem_cons.mpr ⟨zl_129, List.forall_mem_cons.mpr ⟨zl_130, List.forall_mem_cons.mpr ⟨zl_131, List.forall_mem_cons.mpr ⟨zl_132, List.forall_mem_cons.mpr ⟨zl_133, List.forall_mem_cons.mpr ⟨zl_134, List.forall_mem_cons.mpr ⟨zl_135, List.forall_mem_cons.mpr ⟨zl_136, List.forall_mem_cons.mpr ⟨zl_137, List.forall_mem_cons.mpr ⟨zl_138, List.forall_mem_cons.mpr ⟨zl_139, List.forall_mem_cons.mpr ⟨zl_140, List.forall_mem_cons.mpr ⟨zl_141, List.forall_mem_cons.mpr ⟨zl_142, List.forall_mem_cons.mpr ⟨zl_143, List.forall_mem_cons.mpr ⟨zl_144, List.forall_mem_cons.mpr ⟨zl_145, List.forall_mem_cons.mpr ⟨zl_146, List.forall_mem_cons.mpr ⟨zl_147, List.forall_mem_cons.mpr ⟨zl_148, List.forall_mem_cons.mpr ⟨zl_149, List.forall_mem_cons.mpr ⟨zl_150, List.forall_mem_cons.mpr ⟨zl_151, List.forall_mem_cons.mpr ⟨zl_152, List.forall_mem_cons.mpr ⟨zl_153, List.forall_mem_cons.mpr ⟨zl_154, List.forall_mem_cons.mpr ⟨zl_155, List.forall_mem_cons.mpr ⟨zl_156, List.forall_mem_cons.mpr ⟨zl_157, List.forall_mem_cons.mpr ⟨zl_158, List.forall_mem_cons.mpr ⟨zl_159, List.forall_mem_cons.mpr ⟨zl_160, List.forall_mem_cons.mpr ⟨zl_161, List.forall_mem_cons.mpr ⟨zl_162, List.forall_mem_cons.mpr ⟨zl_163, List.forall_mem_cons.mpr ⟨zl_164, List.forall_mem_cons.mpr ⟨zl_165, List.forall_mem_cons.mpr ⟨zl_166, List.forall_mem_cons.mpr ⟨zl_167, List.forall_mem_cons.mpr ⟨zl_168, List.forall_mem_cons.mpr ⟨zl_169, List.forall_mem_cons.mpr ⟨zl_170, List.forall_mem_cons.mpr ⟨zl_171, List.forall_mem_cons.mpr ⟨zl_172, List.forall_mem_cons.mpr ⟨zl_173, List.forall_mem_cons.mpr ⟨zl_174, List.forall_mem_cons.mpr ⟨zl_175, List.forall_mem_cons.mpr ⟨zl_176, List.forall_mem_cons.mpr ⟨zl_177, List.forall_mem_cons.mpr ⟨zl_178, List.forall_mem_cons.mpr ⟨zl_179, List.forall_mem_cons.mpr ⟨zl_180, List.forall_mem_cons.mpr ⟨zl_181, List.forall_mem_cons.mpr ⟨zl_182, List.forall_mem_cons.mpr ⟨zl_183, List.forall_mem_cons.mpr ⟨zl_184, List.forall_mem_cons.mpr ⟨zl_185, List.forall_mem_cons.mpr ⟨zl_186, List.forall_mem_cons.mpr ⟨zl_187, List.forall_mem_cons.mpr ⟨zl_188, List.forall_mem_cons.mpr ⟨zl_189, List.forall_mem_cons.mpr ⟨zl_190, List.forall_mem_cons.mpr ⟨zl_191, List.forall_mem_cons.mpr ⟨zl_192, List.forall_mem_cons.mpr ⟨zl_193, List.forall_mem_cons.mpr ⟨zl_194, List.forall_mem_cons.mpr ⟨zl_195, List.forall_mem_cons.mpr ⟨zl_196, List.forall_mem_cons.mpr ⟨zl_197, List.forall_mem_cons.mpr ⟨zl_198, List.forall_mem_cons.mpr ⟨zl_199, List.forall_mem_cons.mpr ⟨zl_200, List.forall_mem_cons.mpr ⟨zl_201, List.forall_mem_cons.mpr ⟨zl_202, List.forall_mem_cons.mpr ⟨zl_203, List.forall_mem_cons.mpr ⟨zl_204, List.forall_mem_cons.mpr ⟨zl_205, List.forall_mem_cons.mpr ⟨zl_206, List.forall_mem_cons.mpr ⟨zl_207, List.forall_mem_cons.mpr ⟨zl_208, List.forall_mem_cons.mpr ⟨zl_209, List.forall_mem_cons.mpr ⟨zl_210, List.forall_mem_cons.mpr ⟨zl_211, List.forall_mem_cons.mpr ⟨zl_212, List.forall_mem_cons.mpr ⟨zl_213, List.forall_mem_cons.mpr ⟨zl_214, List.forall_mem_cons.mpr ⟨zl_215, List.forall_mem_cons.mpr ⟨zl_216, List.forall_mem_cons.mpr ⟨zl_217, List.forall_mem_cons.mpr ⟨zl_218, List.forall_mem_cons.mpr ⟨zl_219, List.forall_mem_cons.mpr ⟨zl_220, List.forall_mem_cons.mpr ⟨zl_221, List.forall_mem_cons.mpr ⟨zl_222, List.forall_mem_cons.mpr ⟨zl_223, List.forall_mem_cons.mpr ⟨zl_224, List.forall_mem_cons.mpr ⟨zl_225, List.forall_mem_cons.mpr ⟨zl_226, List.forall_mem_cons.mpr ⟨zl_227, List.forall_mem_cons.mpr ⟨zl_228, List.forall_mem_cons.mpr ⟨zl_229, List.forall_mem_cons.mpr ⟨zl_230, List.forall_mem_cons.mpr ⟨zl_231, List.forall_mem_cons.mpr ⟨zl_232, List.forall_mem_cons.mpr ⟨zl_233, List.forall_mem_cons.mpr ⟨zl_234, List.forall_mem_cons.mpr ⟨zl_235, List.forall_mem_cons.mpr ⟨zl_236, List.forall_mem_cons.mpr ⟨zl_237, List.forall_mem_cons.mpr ⟨zl_238, List.forall_mem_cons.mpr ⟨zl_239, List.forall_mem_cons.mpr ⟨zl_240, List.forall_mem_cons.mpr ⟨zl_241, List.forall_mem_cons.mpr ⟨zl_242, List.forall_mem_cons.mpr ⟨zl_243, List.forall_mem_cons.mpr ⟨zl_244, List.forall_mem_cons.mpr ⟨zl_245, List.forall_mem_cons.mpr ⟨zl_246, List.forall_mem_cons.mpr ⟨zl_247, List.forall_mem_cons.mpr ⟨zl_248, List.forall_mem_cons.mpr ⟨zl_249, List.forall_mem_cons.mpr ⟨zl_250, List.forall_mem_cons.mpr ⟨zl_251, List.forall_mem_cons.mpr ⟨zl_252, List.forall_mem_cons.mpr ⟨zl_253, List.forall_mem_cons.mpr ⟨zl_254, List.forall_mem_cons.mpr ⟨zl_255, List.forall_mem_cons.mpr ⟨zl_256, List.forall_mem_cons.mpr ⟨zl_257, List.forall_mem_cons.mpr ⟨zl_258, List.forall_mem_cons.mpr ⟨zl_259, List.forall_mem_cons.mpr ⟨zl_260, List.forall_mem_cons.mpr ⟨zl_261, List.forall_mem_cons.mpr ⟨zl_262, List.forall_mem_cons.mpr ⟨zl_263, List.forall_mem_cons.mpr ⟨zl_264, List.forall_mem_cons.mpr ⟨zl_265, List.forall_mem_cons.mpr ⟨zl_266, List.forall_mem_cons.mpr ⟨zl_267, List.forall_mem_cons.mpr ⟨zl_268, List.forall_mem_cons.mpr ⟨zl_269, List.forall_mem_cons.mpr ⟨zl_270, List.forall_mem_cons.mpr ⟨zl_271, List.forall_mem_cons.mpr ⟨zl_272, List.forall_mem_cons.mpr ⟨zl_273, List.forall_mem_cons.mpr ⟨zl_274, List.forall_mem_cons.mpr ⟨zl_275, List.forall_mem_cons.mpr ⟨zl_276, List.forall_mem_cons.mpr ⟨zl_277, List.forall_mem_cons.mpr ⟨zl_278, List.forall_mem_cons.mpr ⟨zl_279, List.forall_mem_cons.mpr ⟨zl_280, List.forall_mem_cons.mpr ⟨zl_281, List.forall_mem_cons.mpr ⟨zl_282, List.forall_mem_cons.mpr ⟨zl_283, List.forall_mem_cons.mpr ⟨zl_284, List.forall_mem_cons.mpr ⟨zl_285, List.forall_mem_cons.mpr ⟨zl_286, List.forall_mem_cons.mpr ⟨zl_287, List.forall_mem_cons.mpr ⟨zl_288, List.forall_mem_cons.mpr ⟨zl_289, List.forall_mem_cons.mpr ⟨zl_290, List.forall_mem_cons.mpr ⟨zl_291, List.forall_mem_cons.mpr ⟨zl_292, List.forall_mem_cons.mpr ⟨zl_293, List.forall_mem_cons.mpr ⟨zl_294, List.forall_mem_cons.mpr ⟨zl_295, List.forall_mem_cons.mpr ⟨zl_296, List.forall_mem_cons.mpr ⟨zl_297, List.forall_mem_cons.mpr ⟨zl_298, List.forall_mem_cons.mpr ⟨zl_299, List.forall_mem_cons.mpr ⟨zl_300, List.forall_mem_cons.mpr ⟨zl_301, List.forall_mem_cons.mpr ⟨zl_302, List.forall_mem_cons.mpr ⟨zl_303, List.forall_mem_cons.mpr ⟨zl_304, List.forall_mem_cons.mpr ⟨zl_305, List.forall_mem_cons.mpr ⟨zl_306, List.forall_mem_cons.mpr ⟨zl_307, List.forall_mem_cons.mpr ⟨zl_308, List.forall_mem_cons.mpr ⟨zl_309, List.forall_mem_cons.mpr ⟨zl_310, List.forall_mem_cons.mpr ⟨zl_311, List.forall_mem_cons.mpr ⟨zl_312, List.forall_mem_cons.mpr ⟨zl_313, List.forall_mem_cons.mpr ⟨zl_314, List.forall_mem_cons.mpr ⟨zl_315, List.forall_mem_cons.mpr ⟨zl_316, List.forall_mem_cons.mpr ⟨zl_317, List.forall_mem_cons.mpr ⟨zl_318, List.forall_mem_cons.mpr ⟨zl_319, List.forall_mem_cons.mpr ⟨zl_320, List.forall_mem_cons.mpr ⟨zl_321, List.forall_mem_cons.mpr ⟨zl_322, List.forall_mem_cons.mpr ⟨zl_323, List.forall_mem_cons.mpr ⟨zl_324, List.forall_mem_cons.mpr ⟨zl_325, List.forall_mem_cons.mpr ⟨zl_326, List.forall_mem_cons.mpr ⟨zl_327, List.forall_mem_cons.mpr ⟨zl_328, List.forall_mem_cons.mpr ⟨zl_329, List.forall_mem_cons.mpr ⟨zl_330, List.forall_mem_cons.mpr ⟨zl_331, List.forall_mem_cons.mpr ⟨zl_332, List.forall_mem_cons.mpr ⟨zl_333, List.forall_mem_cons.mpr ⟨zl_334, List.forall_mem_cons.mpr ⟨zl_335, List.forall_mem_cons.mpr ⟨zl_336, List.forall_mem_cons.mpr ⟨zl_337, List.forall_mem_cons.mpr ⟨zl_338, List.forall_mem_cons.mpr ⟨zl_339, List.forall_mem_cons.mpr ⟨zl_340, List.forall_mem_cons.mpr ⟨zl_341, List.forall_mem_cons.mpr ⟨zl_342, List.forall_mem_cons.mpr ⟨zl_343, List.forall_mem_cons.mpr ⟨zl_344, List.forall_mem_cons.mpr ⟨zl_345, List.forall_mem_cons.mpr ⟨zl_346, List.forall_mem_cons.mpr ⟨zl_347, List.forall_mem_cons.mpr ⟨zl_348, List.forall_mem_cons.mpr ⟨zl_349, List.forall_mem_cons.mpr ⟨zl_350, List.forall_mem_cons.mpr ⟨zl_351, List.forall_mem_cons.mpr ⟨zl_352, List.forall_mem_cons.mpr ⟨zl_353, List.forall_mem_cons.mpr ⟨zl_354, List.forall_mem_cons.mpr ⟨zl_355, List.forall_mem_cons.mpr ⟨zl_356, List.forall_mem_cons.mpr ⟨zl_357, List.forall_mem_cons.mpr ⟨zl_358, List.forall_mem_cons.mpr ⟨zl_359, List.forall_mem_cons.mpr ⟨zl_360, List.forall_mem_cons.mpr ⟨zl_361, List.forall_mem_cons.mpr ⟨zl_362, List.forall_mem_cons.mpr ⟨zl_363, List.forall_mem_cons.mpr ⟨zl_364, List.forall_mem_cons.mpr ⟨zl_365, List.forall_mem_cons.mpr ⟨zl_366, List.forall_mem_cons.mpr ⟨zl_367, List.forall_mem_cons.mpr ⟨zl_368, List.forall_mem_cons.mpr ⟨zl_369, List.forall_mem_cons.mpr ⟨zl_370, List.forall_mem_cons.mpr ⟨zl_371, List.forall_mem_cons.mpr ⟨zl_372, List.forall_mem_cons.mpr ⟨zl_373, List.forall_mem_cons.mpr ⟨zl_374, List.forall_mem_cons.mpr ⟨zl_375, List.forall_mem_cons.mpr ⟨zl_376, List.forall_mem_cons.mpr ⟨zl_377, List.forall_mem_cons.mpr ⟨zl_378, List.forall_mem_cons.mpr ⟨zl_379, List.forall_mem_cons.mpr ⟨zl_380, List.forall_mem_cons.mpr ⟨zl_381, List.forall_mem_cons.mpr ⟨zl_382, List.forall_mem_cons.mpr ⟨zl_383, List.forall_mem_cons.mpr ⟨zl_384, List.forall_mem_cons.mpr ⟨zl_385, List.forall_mem_cons.mpr ⟨zl_386, List.forall_mem_cons.mpr ⟨zl_387, List.forall_mem_cons.mpr ⟨zl_388, List.forall_mem_cons.mpr ⟨zl_389, List.forall_mem_cons.mpr ⟨zl_390, List.forall_mem_cons.mpr ⟨zl_391, List.forall_mem_cons.mpr ⟨zl_392, List.forall_mem_cons.mpr ⟨zl_393, List.forall_mem_cons.mpr ⟨zl_394, List.forall_mem_cons.mpr ⟨zl_395, List.forall_mem_cons.mpr ⟨zl_396, List.forall_mem_cons.mpr ⟨zl_397, fun _ h => absurd h List.not_mem_nil⟩⟩⟩⟩⟩⟩⟩⟩⟩⟩⟩⟩⟩⟩⟩⟩⟩⟩⟩⟩⟩⟩⟩⟩⟩⟩⟩⟩⟩⟩⟩⟩⟩⟩⟩⟩⟩⟩⟩⟩⟩⟩⟩⟩⟩⟩⟩⟩⟩⟩⟩⟩⟩⟩⟩⟩⟩⟩⟩⟩⟩⟩⟩⟩⟩⟩⟩⟩⟩⟩⟩⟩⟩⟩⟩⟩⟩⟩⟩⟩⟩⟩⟩⟩⟩⟩⟩⟩⟩⟩⟩⟩⟩⟩⟩⟩⟩⟩⟩⟩⟩⟩⟩⟩⟩⟩⟩⟩⟩⟩⟩⟩⟩⟩⟩⟩⟩⟩⟩⟩⟩⟩⟩⟩⟩⟩⟩⟩⟩⟩⟩⟩⟩⟩⟩⟩⟩⟩⟩⟩⟩⟩⟩⟩⟩⟩⟩⟩⟩⟩⟩⟩⟩⟩⟩⟩⟩⟩⟩⟩⟩⟩⟩⟩⟩⟩⟩⟩⟩⟩⟩⟩⟩⟩⟩⟩⟩⟩⟩⟩⟩⟩⟩⟩⟩⟩⟩⟩⟩⟩⟩⟩⟩⟩⟩⟩⟩⟩⟩⟩⟩⟩⟩⟩⟩⟩⟩⟩⟩⟩⟩⟩⟩⟩⟩⟩⟩⟩⟩⟩⟩⟩⟩⟩⟩⟩⟩⟩⟩⟩⟩⟩⟩⟩⟩⟩⟩⟩⟩⟩⟩⟩⟩⟩⟩⟩⟩⟩⟩⟩⟩⟩⟩⟩⟩⟩⟩⟩⟩⟩⟩⟩⟩⟩⟩⟩⟩⟩⟩⟩⟩⟩⟩⟩⟩⟩⟩⟩⟩⟩⟩⟩⟩⟩⟩⟩⟩⟩⟩⟩⟩⟩⟩⟩⟩⟩⟩⟩⟩⟩⟩⟩⟩⟩⟩⟩⟩⟩⟩⟩⟩⟩⟩⟩⟩⟩⟩⟩⟩⟩⟩⟩⟩⟩⟩⟩⟩⟩⟩⟩⟩⟩⟩⟩⟩⟩⟩⟩⟩⟩⟩⟩⟩⟩⟩⟩⟩⟩⟩⟩⟩⟩⟩⟩⟩⟩⟩⟩⟩⟩⟩⟩⟩⟩⟩⟩⟩⟩⟩⟩⟩⟩⟩⟩⟩⟩⟩⟩⟩⟩⟩⟩⟩⟩⟩⟩⟩⟩⟩⟩⟩⟩⟩⟩⟩⟩⟩⟩
def zCal : List Nat := [0, 1, 2, 3, 4, 5, 6, 7, 8, 9, 10, 11, 12, 13, 14, 15, 16, 17, 18, 19, 20, 21, 22, 23, 24, 25, 26, 27, 28, 29, 30, 31, 32, 33, 34, 35, 36, 37, 38, 39, 40, 41, 42, 43, 44, 45, 46, 47, 48, 49, 50, 51, 52, 53, 54, 55, 56, 57, 58, 59, 60, 61, 62, 63, 64, 65, 66, 67, 68, 69, 70, 71, 72, 73, 74, 75, 76, 77, 78, 79, 80, 81, 82, 83, 84, 85, 86, 87, 88, 89, 90, 91, 92, 93, 94, 95, 96, 97, 98, 99, 100, 101, 102, 103, 104, 105, 106, 107, 108, 109, 110, 111, 112, 113, 114, 115, 116, 117, 118, 119, 120, 121, 122, 123, 124, 125, 126, 127, 128, 129, 130, 131, 132, 133, 134, 135, 136, 137, 138, 139, 140, 141, 142, 143, 144, 145, 146, 147, 148, 149, 150, 151, 152, 153, 154, 155, 156, 157, 158, 159, 160, 161, 162, 163, 164, 165, 166, 167, 168, 169, 170, 171, 172, 173, 174, 175, 176, 177, 178, 179, 180, 181, 182, 183, 184, 185, 186, 187, 188, 189, 190, 191, 192, 193, 194, 195, 196, 197, 198, 199, 200, 201, 202, 203, 204, 205, 206, 207, 208, 209, 210, 211, 212, 213, 214, 215, 216, 217, 218, 219, 220, 221, 222, 223, 224, 225, 226, 227, 228, 229, 230, 231, 232, 233, 234, 235, 236, 237, 238, 239, 240, 241, 242, 243, 244, 245, 246, 247, 248, 249, 250, 251, 252, 253, 254, 255, 256, 257, 258, 259, 260, 261, 262, 263, 264, 265, 266, 267, 268, 269, 270, 271, 272, 273, 274, 275, 276, 277, 278, 279, 280, 281, 282, 283, 284, 285, 286, 287, 288, 289, 290, 291, 292, 293, 294, 295, 296, 297, 298, 299, 300, 301, 302, 303, 304, 305, 306, 307, 308, 309, 310, 311, 312, 313, 314, 315, 316, 317, 318, 319, 320, 321, 322, 323, 324, 325, 326, 327, 328, 329, 330, 331, 332, 333, 334, 335, 336, 337]
set_option maxRecDepth 100000 in
theorem zCal_ok : ∀ m ∈ zCal, zYok (zY m) := List.forall_mem_cons.mpr ⟨zy_X0_init, List.forall_mem_cons.mpr ⟨zy_X0_clear, List.forall_mem_cons.mpr ⟨zy_X0_lastNamed, List.forall_mem_cons.mpr ⟨zy_X0_hasName, List.forall_mem_cons.mpr ⟨zy_X0_moneyOfOneKept, List.forall_mem_cons.mpr ⟨zy_X0_moneyOfNone, List.forall_mem_cons.mpr ⟨zy_X1_init, List.forall_mem_cons.mpr ⟨zy_X1_read, List.forall_mem_cons.mpr ⟨zy_X1_readStatement, List.forall_mem_cons.mpr ⟨zy_X1_readLast, List.forall_mem_cons.mpr ⟨zy_X1_readSort, List.forall_mem_cons.mpr ⟨zy_X1_readStock, List.forall_mem_cons.mpr ⟨zy_X1_readAsk, List.forall_mem_cons.mpr ⟨zy_X1_refuseKnown, List.forall_mem_cons.mpr ⟨zy_X1_takeHundreds, List.forall_mem_cons.mpr ⟨zy_X1_takeChances, List.forall_mem_cons.mpr ⟨zy_X2_init, List.forall_mem_cons.mpr ⟨zy_X2_byteAt, List.forall_mem_cons.mpr ⟨zy_X2_write, List.forall_mem_cons.mpr ⟨zy_X2_put, List.forall_mem_cons.mpr ⟨zy_X2_putRow, List.forall_mem_cons.mpr ⟨zy_X2_check, List.forall_mem_cons.mpr ⟨zy_X2_personAt, List.forall_mem_cons.mpr ⟨zy_X2_isOne, List.forall_mem_cons.mpr ⟨zy_X2_isPersonAt, List.forall_mem_cons.mpr ⟨zy_X2_numberAt, List.forall_mem_cons.mpr ⟨zy_X2_isCertain, List.forall_mem_cons.mpr ⟨zy_X2_takeRow, List.forall_mem_cons.mpr ⟨zy_X2_takePeople, List.forall_mem_cons.mpr ⟨zy_X2_takeRuns, List.forall_mem_cons.mpr ⟨zy_X3_init, List.forall_mem_cons.mpr ⟨zy_X3_lean, List.forall_mem_cons.mpr ⟨zy_X4_init, List.forall_mem_cons.mpr ⟨zy_X4_begin, List.forall_mem_cons.mpr ⟨zy_X4_hasBox, List.forall_mem_cons.mpr ⟨zy_X4_canBeSent, List.forall_mem_cons.mpr ⟨zy_X4_withinSizes, List.forall_mem_cons.mpr ⟨zy_X4_endBox, List.forall_mem_cons.mpr ⟨zy_X4_isSeldomHonest, List.forall_mem_cons.mpr ⟨zy_X4_hasKept, List.forall_mem_cons.mpr ⟨zy_X4_isAlike, List.forall_mem_cons.mpr ⟨zy_X4_countKept, List.forall_mem_cons.mpr ⟨zy_X4_grow, List.forall_mem_cons.mpr ⟨zy_X5_init, List.forall_mem_cons.mpr ⟨zy_X6_init, List.forall_mem_cons.mpr ⟨zy_X6_isThere, List.forall_mem_cons.mpr ⟨zy_X6_count, List.forall_mem_cons.mpr ⟨zy_X6_choose, List.forall_mem_cons.mpr ⟨zy_X6_push, List.forall_mem_cons.mpr ⟨zy_X6_pop, List.forall_mem_cons.mpr ⟨zy_X6_reckon, List.forall_mem_cons.mpr ⟨zy_X6_bound, List.forall_mem_cons.mpr ⟨zy_X6_read, List.forall_mem_cons.mpr ⟨zy_X6_put, List.forall_mem_cons.mpr ⟨zy_X6_readSizes, List.forall_mem_cons.mpr ⟨zy_X6_atSizeWord, List.forall_mem_cons.mpr ⟨zy_X6_readTest, List.forall_mem_cons.mpr ⟨zy_X6_readBoth, List.forall_mem_cons.mpr ⟨zy_X6_readFact, List.forall_mem_cons.mpr ⟨zy_X6_enter, List.forall_mem_cons.mpr ⟨zy_X6_readComparison, List.forall_mem_cons.mpr ⟨zy_X6_readSum, List.forall_mem_cons.mpr ⟨zy_X6_readProduct, List.forall_mem_cons.mpr ⟨zy_X6_readPart, List.forall_mem_cons.mpr ⟨zy_X6_readBracket, List.forall_mem_cons.mpr ⟨zy_X7_init, List.forall_mem_cons.mpr ⟨zy_X7_putOn, List.forall_mem_cons.mpr ⟨zy_X7_gapOf, List.forall_mem_cons.mpr ⟨zy_X7_pleasesBy, List.forall_mem_cons.mpr ⟨zy_X7_bestPair, List.forall_mem_cons.mpr ⟨zy_X7_chanceOf, List.forall_mem_cons.mpr ⟨zy_X7_weigh, List.forall_mem_cons.mpr ⟨zy_X7_chanceThat, List.forall_mem_cons.mpr ⟨zy_X7_weighAnswer, List.forall_mem_cons.mpr ⟨zy_X7_layOut, List.forall_mem_cons.mpr ⟨zy_X7_keptOf, List.forall_mem_cons.mpr ⟨zy_X7_learn, List.forall_mem_cons.mpr ⟨zy_X7_makeCertain, List.forall_mem_cons.mpr ⟨zy_X8_init, List.forall_mem_cons.mpr ⟨zy_X9_init, List.forall_mem_cons.mpr ⟨zy_X9_clear, List.forall_mem_cons.mpr ⟨zy_X9_day, List.forall_mem_cons.mpr ⟨zy_X9_onTheWay, List.forall_mem_cons.mpr ⟨zy_X9_placeOf, List.forall_mem_cons.mpr ⟨zy_X9_set, List.forall_mem_cons.mpr ⟨zy_X9_count, List.forall_mem_cons.mpr ⟨zy_X9_hasAll, List.forall_mem_cons.mpr ⟨zy_X9_change, List.forall_mem_cons.mpr ⟨zy_X9_expect, List.forall_mem_cons.mpr ⟨zy_X9_pass, List.forall_mem_cons.mpr ⟨zy_X9_receive, List.forall_mem_cons.mpr ⟨zy_X10_init, List.forall_mem_cons.mpr ⟨zy_X10_letterOf, List.forall_mem_cons.mpr ⟨zy_X10_faultFound, List.forall_mem_cons.mpr ⟨zy_X10_faultPlace, List.forall_mem_cons.mpr ⟨zy_X10_start, List.forall_mem_cons.mpr ⟨zy_X10_open, List.forall_mem_cons.mpr ⟨zy_X10_advance, List.forall_mem_cons.mpr ⟨zy_X10_kindOf, List.forall_mem_cons.mpr ⟨zy_X10_readWord, List.forall_mem_cons.mpr ⟨zy_X10_readNumber, List.forall_mem_cons.mpr ⟨zy_X10_atEnd, List.forall_mem_cons.mpr ⟨zy_X10_atNumber, List.forall_mem_cons.mpr ⟨zy_X10_atSign, List.forall_mem_cons.mpr ⟨zy_X10_ownWord, List.forall_mem_cons.mpr ⟨zy_X10_atWord, List.forall_mem_cons.mpr ⟨zy_X10_fail, List.forall_mem_cons.mpr ⟨zy_X10_failHere, List.forall_mem_cons.mpr ⟨zy_X10_takeWord, List.forall_mem_cons.mpr ⟨zy_X10_takeSign, List.forall_mem_cons.mpr ⟨zy_X10_takeNumber, List.forall_mem_cons.mpr ⟨zy_X10_takeName, List.forall_mem_cons.mpr ⟨zy_X11_init, List.forall_mem_cons.mpr ⟨zy_X11_feed, List.forall_mem_cons.mpr ⟨zy_X11_putOnTape, List.forall_mem_cons.mpr ⟨zy_X11_end, List.forall_mem_cons.mpr ⟨zy_X11_takeTape, List.forall_mem_cons.mpr ⟨zy_X11_house, List.forall_mem_cons.mpr ⟨zy_X11_rule, List.forall_mem_cons.mpr ⟨zy_X11_keepFault, List.forall_mem_cons.mpr ⟨zy_X11_fault, List.forall_mem_cons.mpr ⟨zy_X11_has, List.forall_mem_cons.mpr ⟨zy_X11_countBoxesOut, List.forall_mem_cons.mpr ⟨zy_X11_letter, List.forall_mem_cons.mpr ⟨zy_X11_nameOf, List.forall_mem_cons.mpr ⟨zy_X11_isLast, List.forall_mem_cons.mpr ⟨zy_X11_isSort, List.forall_mem_cons.mpr ⟨zy_X11_isQuestion, List.forall_mem_cons.mpr ⟨zy_X11_isPerson, List.forall_mem_cons.mpr ⟨zy_X11_isSize, List.forall_mem_cons.mpr ⟨zy_X11_isFoot, List.forall_mem_cons.mpr ⟨zy_X11_isRun, List.forall_mem_cons.mpr ⟨zy_X11_isBox, List.forall_mem_cons.mpr ⟨zy_X11_isOutcome, List.forall_mem_cons.mpr ⟨zy_X11_isInBox, List.forall_mem_cons.mpr ⟨zy_X11_sortOf, List.forall_mem_cons.mpr ⟨zy_X11_person, List.forall_mem_cons.mpr ⟨zy_X11_foot, List.forall_mem_cons.mpr ⟨zy_X11_last, List.forall_mem_cons.mpr ⟨zy_X11_who, List.forall_mem_cons.mpr ⟨zy_X11_keeps, List.forall_mem_cons.mpr ⟨zy_X11_weigh, List.forall_mem_cons.mpr ⟨zy_X11_after, List.forall_mem_cons.mpr ⟨zy_X11_teaches, List.forall_mem_cons.mpr ⟨zy_X11_mean, List.forall_mem_cons.mpr ⟨zy_X11_plainMean, List.forall_mem_cons.mpr ⟨zy_X11_layOut, List.forall_mem_cons.mpr ⟨zy_X11_meanOf, List.forall_mem_cons.mpr ⟨zy_X11_orderedMean, List.forall_mem_cons.mpr ⟨zy_X11_best, List.forall_mem_cons.mpr ⟨zy_X11_bestBits, List.forall_mem_cons.mpr ⟨zy_X11_bestMean, List.forall_mem_cons.mpr ⟨zy_X11_box, List.forall_mem_cons.mpr ⟨zy_X11_tellFacts, List.forall_mem_cons.mpr ⟨zy_X11_way, List.forall_mem_cons.mpr ⟨zy_X11_bitsOfWay, List.forall_mem_cons.mpr ⟨zy_X11_send, List.forall_mem_cons.mpr ⟨zy_X11_canSendNow, List.forall_mem_cons.mpr ⟨zy_X11_sendNow, List.forall_mem_cons.mpr ⟨zy_X11_back, List.forall_mem_cons.mpr ⟨zy_X11_learnFromBox, List.forall_mem_cons.mpr ⟨zy_X11_takeBack, List.forall_mem_cons.mpr ⟨zy_X11_days, List.forall_mem_cons.mpr ⟨zy_X11_stock, List.forall_mem_cons.mpr ⟨zy_X11_earned, List.forall_mem_cons.mpr ⟨zy_X11_answer, List.forall_mem_cons.mpr ⟨zy_X11_worth, List.forall_mem_cons.mpr ⟨zy_X11_worthBeside, List.forall_mem_cons.mpr ⟨zy_X11_question, List.forall_mem_cons.mpr ⟨zy_X11_fee, List.forall_mem_cons.mpr ⟨zy_X11_step, List.forall_mem_cons.mpr ⟨zy_X11_print, List.forall_mem_cons.mpr ⟨zy_X11_alike, List.forall_mem_cons.mpr ⟨zy_X11_strangers, List.forall_mem_cons.mpr ⟨zy_X11_hold, List.forall_mem_cons.mpr ⟨zy_X11_year, List.forall_mem_cons.mpr ⟨zy_X11_draw, List.forall_mem_cons.mpr ⟨zy_X11_drawOfCertain, List.forall_mem_cons.mpr ⟨zy_X11_drawFrom, List.forall_mem_cons.mpr ⟨zy_X11_truth, List.forall_mem_cons.mpr ⟨zy_X11_trial, List.forall_mem_cons.mpr ⟨zy_X11_hasTruth, List.forall_mem_cons.mpr ⟨zy_X11_drawOutcome, List.forall_mem_cons.mpr ⟨zy_X11_image, List.forall_mem_cons.mpr ⟨zy_X11_octet, List.forall_mem_cons.mpr ⟨zy_X11_on, List.forall_mem_cons.mpr ⟨zy_X11_bringBoxesHome, List.forall_mem_cons.mpr ⟨zy_X12_init, List.forall_mem_cons.mpr ⟨zy_X12_isIn, List.forall_mem_cons.mpr ⟨zy_X12_feed, List.forall_mem_cons.mpr ⟨zy_X12_end, List.forall_mem_cons.mpr ⟨zy_X12_fail, List.forall_mem_cons.mpr ⟨zy_X12_isLetter, List.forall_mem_cons.mpr ⟨zy_X12_isDigit, List.forall_mem_cons.mpr ⟨zy_X12_look, List.forall_mem_cons.mpr ⟨zy_X12_isHere, List.forall_mem_cons.mpr ⟨zy_X12_takes, List.forall_mem_cons.mpr ⟨zy_X12_asks, List.forall_mem_cons.mpr ⟨zy_X12_takesSign, List.forall_mem_cons.mpr ⟨zy_X12_asksSign, List.forall_mem_cons.mpr ⟨zy_X12_number, List.forall_mem_cons.mpr ⟨zy_X12_isOwnHere, List.forall_mem_cons.mpr ⟨zy_X12_name, List.forall_mem_cons.mpr ⟨zy_X12_begins, List.forall_mem_cons.mpr ⟨zy_X12_nameOf, List.forall_mem_cons.mpr ⟨zy_X12_newName, List.forall_mem_cons.mpr ⟨zy_X12_isFull, List.forall_mem_cons.mpr ⟨zy_X12_chances, List.forall_mem_cons.mpr ⟨zy_X12_lastTold, List.forall_mem_cons.mpr ⟨zy_X12_sortTold, List.forall_mem_cons.mpr ⟨zy_X12_askTold, List.forall_mem_cons.mpr ⟨zy_X12_keepsTold, List.forall_mem_cons.mpr ⟨zy_X12_stockTold, List.forall_mem_cons.mpr ⟨zy_X12_houseTold, List.forall_mem_cons.mpr ⟨zy_X12_house, List.forall_mem_cons.mpr ⟨zy_X12_stands, List.forall_mem_cons.mpr ⟨zy_X12_code, List.forall_mem_cons.mpr ⟨zy_X12_opens, List.forall_mem_cons.mpr ⟨zy_X12_isOn, List.forall_mem_cons.mpr ⟨zy_X12_drops, List.forall_mem_cons.mpr ⟨zy_X12_isMark, List.forall_mem_cons.mpr ⟨zy_X12_mark, List.forall_mem_cons.mpr ⟨zy_X12_dropsToMark, List.forall_mem_cons.mpr ⟨zy_X12_onePart, List.forall_mem_cons.mpr ⟨zy_X12_goesOn, List.forall_mem_cons.mpr ⟨zy_X12_sums, List.forall_mem_cons.mpr ⟨zy_X12_fact, List.forall_mem_cons.mpr ⟨zy_X12_hasSquare, List.forall_mem_cons.mpr ⟨zy_X12_dropsNots, List.forall_mem_cons.mpr ⟨zy_X12_test, List.forall_mem_cons.mpr ⟨zy_X12_goesOnTest, List.forall_mem_cons.mpr ⟨zy_X12_sizeTold, List.forall_mem_cons.mpr ⟨zy_X12_sizesTold, List.forall_mem_cons.mpr ⟨zy_X12_sendTold, List.forall_mem_cons.mpr ⟨zy_X12_rule, List.forall_mem_cons.mpr ⟨zy_X12_fault, List.forall_mem_cons.mpr ⟨zy_X12_lasts, List.forall_mem_cons.mpr ⟨zy_X12_has, List.forall_mem_cons.mpr ⟨zy_X12_letter, List.forall_mem_cons.mpr ⟨zy_X12_isPerson, List.forall_mem_cons.mpr ⟨zy_X12_isLast, List.forall_mem_cons.mpr ⟨zy_X12_comes, List.forall_mem_cons.mpr ⟨zy_X12_isAsked, List.forall_mem_cons.mpr ⟨zy_X12_person, List.forall_mem_cons.mpr ⟨zy_X12_foot, List.forall_mem_cons.mpr ⟨zy_X12_last, List.forall_mem_cons.mpr ⟨zy_X12_pairsKept, List.forall_mem_cons.mpr ⟨zy_X12_who, List.forall_mem_cons.mpr ⟨zy_X12_pairsOf, List.forall_mem_cons.mpr ⟨zy_X12_isBox, List.forall_mem_cons.mpr ⟨zy_X12_pleases, List.forall_mem_cons.mpr ⟨zy_X12_bestPair, List.forall_mem_cons.mpr ⟨zy_X12_likely, List.forall_mem_cons.mpr ⟨zy_X12_weights, List.forall_mem_cons.mpr ⟨zy_X12_keeps, List.forall_mem_cons.mpr ⟨zy_X12_money, List.forall_mem_cons.mpr ⟨zy_X12_floorOf, List.forall_mem_cons.mpr ⟨zy_X12_meanOf, List.forall_mem_cons.mpr ⟨zy_X12_ordered, List.forall_mem_cons.mpr ⟨zy_X12_mean, List.forall_mem_cons.mpr ⟨zy_X12_stockAt, List.forall_mem_cons.mpr ⟨zy_X12_isInStock, List.forall_mem_cons.mpr ⟨zy_X12_bestBox, List.forall_mem_cons.mpr ⟨zy_X12_best, List.forall_mem_cons.mpr ⟨zy_X12_clip, List.forall_mem_cons.mpr ⟨zy_X12_floor, List.forall_mem_cons.mpr ⟨zy_X12_puts, List.forall_mem_cons.mpr ⟨zy_X12_joins, List.forall_mem_cons.mpr ⟨zy_X12_holds, List.forall_mem_cons.mpr ⟨zy_X12_asked, List.forall_mem_cons.mpr ⟨zy_X12_cut, List.forall_mem_cons.mpr ⟨zy_X12_ruled, List.forall_mem_cons.mpr ⟨zy_X12_isRuled, List.forall_mem_cons.mpr ⟨zy_X12_box, List.forall_mem_cons.mpr ⟨zy_X12_wayBox, List.forall_mem_cons.mpr ⟨zy_X12_isWay, List.forall_mem_cons.mpr ⟨zy_X12_way, List.forall_mem_cons.mpr ⟨zy_X12_sent, List.forall_mem_cons.mpr ⟨zy_X12_send, List.forall_mem_cons.mpr ⟨zy_X12_takes_, List.forall_mem_cons.mpr ⟨zy_X12_wouldLearn, List.forall_mem_cons.mpr ⟨zy_X12_learns, List.forall_mem_cons.mpr ⟨zy_X12_isTaught, List.forall_mem_cons.mpr ⟨zy_X12_after, List.forall_mem_cons.mpr ⟨zy_X12_teaches, List.forall_mem_cons.mpr ⟨zy_X12_cameBack, List.forall_mem_cons.mpr ⟨zy_X12_back, List.forall_mem_cons.mpr ⟨zy_X12_days, List.forall_mem_cons.mpr ⟨zy_X12_stock, List.forall_mem_cons.mpr ⟨zy_X12_earned, List.forall_mem_cons.mpr ⟨zy_X12_isQuestion, List.forall_mem_cons.mpr ⟨zy_X12_chance, List.forall_mem_cons.mpr ⟨zy_X12_allOf, List.forall_mem_cons.mpr ⟨zy_X12_answered, List.forall_mem_cons.mpr ⟨zy_X12_answer, List.forall_mem_cons.mpr ⟨zy_X12_behind, List.forall_mem_cons.mpr ⟨zy_X12_worth, List.forall_mem_cons.mpr ⟨zy_X12_question, List.forall_mem_cons.mpr ⟨zy_X12_fee, List.forall_mem_cons.mpr ⟨zy_X12_step, List.forall_mem_cons.mpr ⟨zy_X12_print, List.forall_mem_cons.mpr ⟨zy_X12_areAlike, List.forall_mem_cons.mpr ⟨zy_X12_alike, List.forall_mem_cons.mpr ⟨zy_X12_strangers, List.forall_mem_cons.mpr ⟨zy_X12_hold, List.forall_mem_cons.mpr ⟨zy_X12_year, List.forall_mem_cons.mpr ⟨zy_X12_drawOf, List.forall_mem_cons.mpr ⟨zy_X12_drawnOf, List.forall_mem_cons.mpr ⟨zy_X12_draw, List.forall_mem_cons.mpr ⟨zy_X12_truth, List.forall_mem_cons.mpr ⟨zy_X12_trial, List.forall_mem_cons.mpr ⟨zy_X12_writes, List.forall_mem_cons.mpr ⟨zy_X12_writesTwo, List.forall_mem_cons.mpr ⟨zy_X12_checked, List.forall_mem_cons.mpr ⟨zy_X12_image, List.forall_mem_cons.mpr ⟨zy_X12_octet, List.forall_mem_cons.mpr ⟨zy_X12_twoAt, List.forall_mem_cons.mpr ⟨zy_X12_isWhole, List.forall_mem_cons.mpr ⟨zy_X12_isTold, List.forall_mem_cons.mpr ⟨zy_X12_on, List.forall_mem_cons.mpr ⟨zy_J6_bitCount_0f7a4, List.forall_mem_cons.mpr ⟨zy_J9_floorDiv_7cf53, List.forall_mem_cons.mpr ⟨zy_J9_floorDiv_f86c9, List.forall_mem_cons.mpr ⟨zy_J9_floorMod_7cf53, List.forall_mem_cons.mpr ⟨zy_J9_max_7cf53, List.forall_mem_cons.mpr ⟨zy_J9_max_f86c9, List.forall_mem_cons.mpr ⟨zy_J9_min_7cf53, List.forall_mem_cons.mpr ⟨zy_J9_min_f86c9, List.forall_mem_cons.mpr ⟨zy_J0_length_8abf5, List.forall_mem_cons.mpr ⟨zy_J0_charAt_5068e, List.forall_mem_cons.mpr ⟨zy_J0_coder_7d493, List.forall_mem_cons.mpr ⟨zy_J0_isLatin1_aae02, List.forall_mem_cons.mpr ⟨zy_J0_checkIndex_df160, List.forall_mem_cons.mpr ⟨zy_J1_charAt_3b067, List.forall_mem_cons.mpr ⟨zy_J7_fill_d0a16, List.forall_mem_cons.mpr ⟨zy_J7_fill_53178, List.forall_mem_cons.mpr ⟨zy_J7_copyOf_59c91, List.forall_mem_cons.mpr ⟨zy_J3_checkIndex_8e157, fun _ h => absurd h List.not_mem_nil⟩⟩⟩⟩⟩⟩⟩⟩⟩⟩⟩⟩⟩⟩⟩⟩⟩⟩⟩⟩⟩⟩⟩⟩⟩⟩⟩⟩⟩⟩⟩⟩⟩⟩⟩⟩⟩⟩⟩⟩⟩⟩⟩⟩⟩⟩⟩⟩⟩⟩⟩⟩⟩⟩⟩⟩⟩⟩⟩⟩⟩⟩⟩⟩⟩⟩⟩⟩⟩⟩⟩⟩⟩⟩⟩⟩⟩⟩⟩⟩⟩⟩⟩⟩⟩⟩⟩⟩⟩⟩⟩⟩⟩⟩⟩⟩⟩⟩⟩⟩⟩⟩⟩⟩⟩⟩⟩⟩⟩⟩⟩⟩⟩⟩⟩⟩⟩⟩⟩⟩⟩⟩⟩⟩⟩⟩⟩⟩⟩⟩⟩⟩⟩⟩⟩⟩⟩⟩⟩⟩⟩⟩⟩⟩⟩⟩⟩⟩⟩⟩⟩⟩⟩⟩⟩⟩⟩⟩⟩⟩⟩⟩⟩⟩⟩⟩⟩⟩⟩⟩⟩⟩⟩⟩⟩⟩⟩⟩⟩⟩⟩⟩⟩⟩⟩⟩⟩⟩⟩⟩⟩⟩⟩⟩⟩⟩⟩⟩⟩⟩⟩⟩⟩⟩⟩⟩⟩⟩⟩⟩⟩⟩⟩⟩⟩⟩⟩⟩⟩⟩⟩⟩⟩⟩⟩⟩⟩⟩⟩⟩⟩⟩⟩⟩⟩⟩⟩⟩⟩⟩⟩⟩⟩⟩⟩⟩⟩⟩⟩⟩⟩⟩⟩⟩⟩⟩⟩⟩⟩⟩⟩⟩⟩⟩⟩⟩⟩⟩⟩⟩⟩⟩⟩⟩⟩⟩⟩⟩⟩⟩⟩⟩⟩⟩⟩⟩⟩⟩⟩⟩⟩⟩⟩⟩⟩⟩⟩⟩⟩⟩⟩⟩⟩⟩⟩⟩⟩⟩⟩⟩⟩⟩⟩⟩⟩⟩⟩⟩⟩⟩⟩⟩⟩⟩⟩⟩⟩⟩⟩⟩⟩⟩⟩⟩⟩⟩⟩⟩
def zCLT : List (Nat × Nat × Nat) := [(0, 9, 68), (0, 17, 73), (0, 23, 70), (0, 33, 10), (0, 9, 4), (0, 17, 9), (0, 23, 6), (6, 9, 80), (11, 13, 11), (11, 20, 2), (11, 29, 7), (11, 36, 1), (11, 50, 69), (11, 56, 8), (11, 63, 3), (11, 50, 5), (19, 7, 12), (19, 10, 13)]
def zCln (t : Nat) : String := bif Nat.ble t 20 then (vwCl.getD (t - 1) ("", TX0, 0)).1 else bif Nat.beq t 80 then "[I" else (vwCl.getD (t - 65) ("", TX0, 0)).1
def zClk (e : Nat × Nat × Nat) : Prop := Cond.classLink (zcn e.1) e.2.1 (zCln e.2.2) ∈ lw_tbl
set_option maxRecDepth 100000 in
theorem zk_0 : zClk (0, 9, 68) := zt1 (List.mem_of_getElem? (i := 163) rfl)
set_option maxRecDepth 100000 in
theorem zk_1 : zClk (0, 17, 73) := zt1 (List.mem_of_getElem? (i := 165) rfl)
set_option maxRecDepth 100000 in
theorem zk_2 : zClk (0, 23, 70) := zt1 (List.mem_of_getElem? (i := 167) rfl)
set_option maxRecDepth 100000 in
theorem zk_3 : zClk (0, 33, 10) := zt1 (List.mem_of_getElem? (i := 169) rfl)
set_option maxRecDepth 100000 in
theorem zk_4 : zClk (0, 9, 4) := zt1 (List.mem_of_getElem? (i := 163) rfl)
set_option maxRecDepth 100000 in
theorem zk_5 : zClk (0, 17, 9) := zt1 (List.mem_of_getElem? (i := 165) rfl)
set_option maxRecDepth 100000 in
theorem zk_6 : zClk (0, 23, 6) := zt1 (List.mem_of_getElem? (i := 167) rfl)
set_option maxRecDepth 100000 in
theorem zk_7 : zClk (6, 9, 80) := zt1 (List.mem_of_getElem? (i := 136) rfl)
set_option maxRecDepth 100000 in
theorem zk_8 : zClk (11, 13, 11) := zt1 (List.mem_of_getElem? (i := 30) rfl)
set_option maxRecDepth 100000 in
theorem zk_9 : zClk (11, 20, 2) := zt1 (List.mem_of_getElem? (i := 120) rfl)
set_option maxRecDepth 100000 in
theorem zk_10 : zClk (11, 29, 7) := zt1 (List.mem_of_getElem? (i := 130) rfl)
set_option maxRecDepth 100000 in
theorem zk_11 : zClk (11, 36, 1) := zt1 (List.mem_of_getElem? (i := 157) rfl)
set_option maxRecDepth 100000 in
theorem zk_12 : zClk (11, 50, 69) := zt2 (List.mem_of_getElem? (i := 78) rfl)
set_option maxRecDepth 100000 in
theorem zk_13 : zClk (11, 56, 8) := zt2 (List.mem_of_getElem? (i := 80) rfl)
set_option maxRecDepth 100000 in
theorem zk_14 : zClk (11, 63, 3) := zt2 (List.mem_of_getElem? (i := 105) rfl)
set_option maxRecDepth 100000 in
theorem zk_15 : zClk (11, 50, 5) := zt2 (List.mem_of_getElem? (i := 78) rfl)
set_option maxRecDepth 100000 in
theorem zk_16 : zClk (19, 7, 12) := zt1 (List.mem_of_getElem? (i := 22) rfl)
set_option maxRecDepth 100000 in
theorem zk_17 : zClk (19, 10, 13) := zt6 (List.mem_of_getElem? (i := 41) rfl)
set_option maxRecDepth 100000 in
theorem zCL_ok : ∀ e ∈ zCLT, zClk e := List.forall_mem_cons.mpr ⟨zk_0, List.forall_mem_cons.mpr ⟨zk_1, List.forall_mem_cons.mpr ⟨zk_2, List.forall_mem_cons.mpr ⟨zk_3, List.forall_mem_cons.mpr ⟨zk_4, List.forall_mem_cons.mpr ⟨zk_5, List.forall_mem_cons.mpr ⟨zk_6, List.forall_mem_cons.mpr ⟨zk_7, List.forall_mem_cons.mpr ⟨zk_8, List.forall_mem_cons.mpr ⟨zk_9, List.forall_mem_cons.mpr ⟨zk_10, List.forall_mem_cons.mpr ⟨zk_11, List.forall_mem_cons.mpr ⟨zk_12, List.forall_mem_cons.mpr ⟨zk_13, List.forall_mem_cons.mpr ⟨zk_14, List.forall_mem_cons.mpr ⟨zk_15, List.forall_mem_cons.mpr ⟨zk_16, List.forall_mem_cons.mpr ⟨zk_17, fun _ h => absurd h List.not_mem_nil⟩⟩⟩⟩⟩⟩⟩⟩⟩⟩⟩⟩⟩⟩⟩⟩⟩⟩
set_option maxRecDepth 100000 in
theorem zIn_ok : ∀ t ∈ [1, 2, 3, 4, 5, 6, 7, 8, 9, 10, 11, 12, 13], Cond.instantiable (zCln t) (vwCl.getD (t - 1) ("", TX0, 0)).2.2 ∈ lw_tbl ∧ Cond.initialized (zCln t) ∈ lw_tbl := List.forall_mem_cons.mpr ⟨⟨zt1 (List.mem_of_getElem? (i := 158) rfl), zt1 (List.mem_of_getElem? (i := 9) rfl)⟩, List.forall_mem_cons.mpr ⟨⟨zt1 (List.mem_of_getElem? (i := 121) rfl), zt1 (List.mem_of_getElem? (i := 7) rfl)⟩, List.forall_mem_cons.mpr ⟨⟨zt2 (List.mem_of_getElem? (i := 106) rfl), zt1 (List.mem_of_getElem? (i := 15) rfl)⟩, List.forall_mem_cons.mpr ⟨⟨zt1 (List.mem_of_getElem? (i := 188) rfl), zt1 (List.mem_of_getElem? (i := 11) rfl)⟩, List.forall_mem_cons.mpr ⟨⟨zt2 (List.mem_of_getElem? (i := 118) rfl), zt1 (List.mem_of_getElem? (i := 16) rfl)⟩, List.forall_mem_cons.mpr ⟨⟨zt2 (List.mem_of_getElem? (i := 3) rfl), zt1 (List.mem_of_getElem? (i := 13) rfl)⟩, List.forall_mem_cons.mpr ⟨⟨zt1 (List.mem_of_getElem? (i := 131) rfl), zt1 (List.mem_of_getElem? (i := 8) rfl)⟩, List.forall_mem_cons.mpr ⟨⟨zt2 (List.mem_of_getElem? (i := 81) rfl), zt1 (List.mem_of_getElem? (i := 14) rfl)⟩, List.forall_mem_cons.mpr ⟨⟨zt1 (List.mem_of_getElem? (i := 215) rfl), zt1 (List.mem_of_getElem? (i := 12) rfl)⟩, List.forall_mem_cons.mpr ⟨⟨zt1 (List.mem_of_getElem? (i := 170) rfl), zt1 (List.mem_of_getElem? (i := 10) rfl)⟩, List.forall_mem_cons.mpr ⟨⟨zt1 (List.mem_of_getElem? (i := 31) rfl), zt1 (List.mem_of_getElem? (i := 2) rfl)⟩, List.forall_mem_cons.mpr ⟨⟨zt1 (List.mem_of_getElem? (i := 23) rfl), zt1 (List.mem_of_getElem? (i := 1) rfl)⟩, List.forall_mem_cons.mpr ⟨⟨zt6 (List.mem_of_getElem? (i := 42) rfl), zt1 (List.mem_of_getElem? (i := 17) rfl)⟩, fun _ h => absurd h List.not_mem_nil⟩⟩⟩⟩⟩⟩⟩⟩⟩⟩⟩⟩⟩
def zCI : List (Nat × Nat × Int32) := [(11, 299, (-1000000000)), (12, 515, (-1000000000)), (16, 265, 1431655765), (16, 266, 858993459), (16, 267, 252645135)]
set_option maxRecDepth 100000 in
theorem zCI_ok : ∀ e ∈ zCI, Cond.constant (zcn e.1) e.2.1 e.2.2 ∈ lw_tbl := List.forall_mem_cons.mpr ⟨zt4 (List.mem_of_getElem? (i := 175) rfl), List.forall_mem_cons.mpr ⟨zt8 (List.mem_of_getElem? (i := 142) rfl), List.forall_mem_cons.mpr ⟨zt4 (List.mem_of_getElem? (i := 100) rfl), List.forall_mem_cons.mpr ⟨zt4 (List.mem_of_getElem? (i := 101) rfl), List.forall_mem_cons.mpr ⟨zt4 (List.mem_of_getElem? (i := 102) rfl), fun _ h => absurd h List.not_mem_nil⟩⟩⟩⟩⟩
def zCJ : List (Nat × Nat × Int64) := [(6, 63, (-1000000)), (6, 65, 1000000), (7, 61, 10000), (11, 262, (-1)), (11, 330, 1000000000000), (11, 335, 10000000000), (11, 349, 100), (11, 430, 1000000), (11, 467, 1103515245), (11, 469, 12345), (11, 471, 2147483648), (11, 473, 64), (11, 475, 10000), (12, 302, 27), (12, 304, 97), (12, 443, 2), (12, 448, 5), (12, 453, 30), (12, 455, 49), (12, 468, (-2)), (12, 473, (-1)), (12, 478, 31), (12, 497, 3), (12, 503, 100), (12, 509, 1000000000000), (12, 531, 1000000), (12, 533, (-1000000)), (12, 549, 7), (12, 551, 10), (12, 553, 32), (12, 585, 10000), (12, 624, 99), (12, 632, 4), (12, 634, 1103515245), (12, 640, 12345), (12, 642, 2147483648), (12, 644, 64)]
set_option maxRecDepth 100000 in
theorem zCJ_ok : ∀ e ∈ zCJ, Cond.constantLong (zcn e.1) e.2.1 e.2.2 ∈ lw_tbl := List.forall_mem_cons.mpr ⟨zt5 (List.mem_of_getElem? (i := 27) rfl), List.forall_mem_cons.mpr ⟨zt5 (List.mem_of_getElem? (i := 28) rfl), List.forall_mem_cons.mpr ⟨zt4 (List.mem_of_getElem? (i := 163) rfl), List.forall_mem_cons.mpr ⟨zt4 (List.mem_of_getElem? (i := 115) rfl), List.forall_mem_cons.mpr ⟨zt4 (List.mem_of_getElem? (i := 204) rfl), List.forall_mem_cons.mpr ⟨zt4 (List.mem_of_getElem? (i := 209) rfl), List.forall_mem_cons.mpr ⟨zt4 (List.mem_of_getElem? (i := 218) rfl), List.forall_mem_cons.mpr ⟨zt5 (List.mem_of_getElem? (i := 127) rfl), List.forall_mem_cons.mpr ⟨zt5 (List.mem_of_getElem? (i := 195) rfl), List.forall_mem_cons.mpr ⟨zt5 (List.mem_of_getElem? (i := 196) rfl), List.forall_mem_cons.mpr ⟨zt5 (List.mem_of_getElem? (i := 197) rfl), List.forall_mem_cons.mpr ⟨zt5 (List.mem_of_getElem? (i := 198) rfl), List.forall_mem_cons.mpr ⟨zt5 (List.mem_of_getElem? (i := 199) rfl), List.forall_mem_cons.mpr ⟨zt7 (List.mem_of_getElem? (i := 163) rfl), List.forall_mem_cons.mpr ⟨zt7 (List.mem_of_getElem? (i := 164) rfl), List.forall_mem_cons.mpr ⟨zt7 (List.mem_of_getElem? (i := 219) rfl), List.forall_mem_cons.mpr ⟨zt8 (List.mem_of_getElem? (i := 64) rfl), List.forall_mem_cons.mpr ⟨zt8 (List.mem_of_getElem? (i := 73) rfl), List.forall_mem_cons.mpr ⟨zt8 (List.mem_of_getElem? (i := 74) rfl), List.forall_mem_cons.mpr ⟨zt8 (List.mem_of_getElem? (i := 87) rfl), List.forall_mem_cons.mpr ⟨zt8 (List.mem_of_getElem? (i := 100) rfl), List.forall_mem_cons.mpr ⟨zt8 (List.mem_of_getElem? (i := 117) rfl), List.forall_mem_cons.mpr ⟨zt8 (List.mem_of_getElem? (i := 121) rfl), List.forall_mem_cons.mpr ⟨zt8 (List.mem_of_getElem? (i := 147) rfl), List.forall_mem_cons.mpr ⟨zt8 (List.mem_of_getElem? (i := 152) rfl), List.forall_mem_cons.mpr ⟨zt8 (List.mem_of_getElem? (i := 210) rfl), List.forall_mem_cons.mpr ⟨zt8 (List.mem_of_getElem? (i := 211) rfl), List.forall_mem_cons.mpr ⟨zt8 (List.mem_of_getElem? (i := 196) rfl), List.forall_mem_cons.mpr ⟨zt8 (List.mem_of_getElem? (i := 197) rfl), List.forall_mem_cons.mpr ⟨zt8 (List.mem_of_getElem? (i := 198) rfl), List.forall_mem_cons.mpr ⟨zt9 (List.mem_of_getElem? (i := 12) rfl), List.forall_mem_cons.mpr ⟨zt9 (List.mem_of_getElem? (i := 82) rfl), List.forall_mem_cons.mpr ⟨zt9 (List.mem_of_getElem? (i := 108) rfl), List.forall_mem_cons.mpr ⟨zt9 (List.mem_of_getElem? (i := 125) rfl), List.forall_mem_cons.mpr ⟨zt9 (List.mem_of_getElem? (i := 126) rfl), List.forall_mem_cons.mpr ⟨zt9 (List.mem_of_getElem? (i := 127) rfl), List.forall_mem_cons.mpr ⟨zt9 (List.mem_of_getElem? (i := 128) rfl), fun _ h => absurd h List.not_mem_nil⟩⟩⟩⟩⟩⟩⟩⟩⟩⟩⟩⟩⟩⟩⟩⟩⟩⟩⟩⟩⟩⟩⟩⟩⟩⟩⟩⟩⟩⟩⟩⟩⟩⟩⟩⟩⟩
def zSn (a : Nat) : String × String × String := match a with
  | 0 => ("ThreeSizes$Tokens", "PLACES", "[I")
  | 1 => ("java/lang/String", "COMPACT_STRINGS", "Z")
  | _ => ("jdk/internal/util/Preconditions", "SIOOBE_FORMATTER", "Ljava/util/function/BiFunction;")
def zGS : List (Nat × Nat × Nat) := [(10, 38, 0), (13, 38, 1), (13, 1053, 2)]
set_option maxRecDepth 100000 in
theorem zGS_ok : ∀ e ∈ zGS, Cond.fieldLink (zcn e.1) e.2.1 (zSn e.2.2).1 (zSn e.2.2).2.1 (zSn e.2.2).2.2 ∈ lw_tbl := List.forall_mem_cons.mpr ⟨zt1 (List.mem_of_getElem? (i := 85) rfl), List.forall_mem_cons.mpr ⟨zt1 (List.mem_of_getElem? (i := 45) rfl), List.forall_mem_cons.mpr ⟨zt1 (List.mem_of_getElem? (i := 61) rfl), fun _ h => absurd h List.not_mem_nil⟩⟩⟩
