/-! the classes, and every instruction checked; laid by wip/whole/gen/kcls.py -/
def zkt (d : String) (t : FieldType) : Bool := match zfk d, t with
  | 0, .int => true
  | 1, .long => true
  | 2, .object _ => true
  | 2, .array _ => true
  | _, _ => false
set_option maxRecDepth 100000 in
theorem zin_0 : ∀ w ∈ u_ws RX0 TX0 11, w ∈ lw_tbl := by decide +kernel
set_option maxRecDepth 100000 in
theorem zkt_0 : ∀ k, k < 11 → zkt (TX0 k).2.2.1 (tyX0 k) = true := by decide +kernel
set_option maxRecDepth 100000 in
theorem zin_1 : ∀ w ∈ u_ws RX1 TX1 1, w ∈ lw_tbl := by decide +kernel
set_option maxRecDepth 100000 in
theorem zkt_1 : ∀ k, k < 1 → zkt (TX1 k).2.2.1 (tyX1 k) = true := by decide +kernel
set_option maxRecDepth 100000 in
theorem zin_2 : ∀ w ∈ u_ws RX2 TX2 2, w ∈ lw_tbl := by decide +kernel
set_option maxRecDepth 100000 in
theorem zkt_2 : ∀ k, k < 2 → zkt (TX2 k).2.2.1 (tyX2 k) = true := by decide +kernel
set_option maxRecDepth 100000 in
theorem zin_3 : ∀ w ∈ u_ws RX3 TX3 4, w ∈ lw_tbl := by decide +kernel
set_option maxRecDepth 100000 in
theorem zkt_3 : ∀ k, k < 4 → zkt (TX3 k).2.2.1 (tyX3 k) = true := by decide +kernel
set_option maxRecDepth 100000 in
theorem zin_4 : ∀ w ∈ u_ws RX4 TX4 9, w ∈ lw_tbl := by decide +kernel
set_option maxRecDepth 100000 in
theorem zkt_4 : ∀ k, k < 9 → zkt (TX4 k).2.2.1 (tyX4 k) = true := by decide +kernel
set_option maxRecDepth 100000 in
theorem zin_5 : ∀ w ∈ u_ws RX5 TX5 2, w ∈ lw_tbl := by decide +kernel
set_option maxRecDepth 100000 in
theorem zkt_5 : ∀ k, k < 2 → zkt (TX5 k).2.2.1 (tyX5 k) = true := by decide +kernel
set_option maxRecDepth 100000 in
theorem zin_6 : ∀ w ∈ u_ws RX6 TX6 6, w ∈ lw_tbl := by decide +kernel
set_option maxRecDepth 100000 in
theorem zkt_6 : ∀ k, k < 6 → zkt (TX6 k).2.2.1 (tyX6 k) = true := by decide +kernel
set_option maxRecDepth 100000 in
theorem zin_7 : ∀ w ∈ u_ws RX7 TX7 5, w ∈ lw_tbl := by decide +kernel
set_option maxRecDepth 100000 in
theorem zkt_7 : ∀ k, k < 5 → zkt (TX7 k).2.2.1 (tyX7 k) = true := by decide +kernel
set_option maxRecDepth 100000 in
theorem zin_8 : ∀ w ∈ u_ws RX8 TX8 5, w ∈ lw_tbl := by decide +kernel
set_option maxRecDepth 100000 in
theorem zkt_8 : ∀ k, k < 5 → zkt (TX8 k).2.2.1 (tyX8 k) = true := by decide +kernel
set_option maxRecDepth 100000 in
theorem zin_9 : ∀ w ∈ u_ws RX9 TX9 4, w ∈ lw_tbl := by decide +kernel
set_option maxRecDepth 100000 in
theorem zkt_9 : ∀ k, k < 4 → zkt (TX9 k).2.2.1 (tyX9 k) = true := by decide +kernel
set_option maxRecDepth 100000 in
theorem zin_10 : ∀ w ∈ u_ws RX10 TX10 10, w ∈ lw_tbl := by decide +kernel
set_option maxRecDepth 100000 in
theorem zkt_10 : ∀ k, k < 10 → zkt (TX10 k).2.2.1 (tyX10 k) = true := by decide +kernel
set_option maxRecDepth 100000 in
theorem zin_11 : ∀ w ∈ u_ws RX11 TX11 19, w ∈ lw_tbl := by decide +kernel
set_option maxRecDepth 100000 in
theorem zkt_11 : ∀ k, k < 19 → zkt (TX11 k).2.2.1 (tyX11 k) = true := by decide +kernel
set_option maxRecDepth 100000 in
theorem zin_12 : ∀ w ∈ u_ws RX12 TX12 98, w ∈ lw_tbl := by decide +kernel
set_option maxRecDepth 100000 in
theorem zkt_12 : ∀ k, k < 98 → zkt (TX12 k).2.2.1 (tyX12 k) = true := by decide +kernel
theorem zcls : ∀ (c : Nat) (q : vw_C), vwCl[c]? = some q → (∀ w ∈ u_ws q.1 q.2.1 q.2.2, w ∈ lw_tbl) ∧ (∀ a, a < q.2.2 → ∀ b, b < q.2.2 → a ≠ b → (q.2.1 a).2.1 ≠ (q.2.1 b).2.1) ∧ ∃ ty : Nat → FieldType, (∀ k, k < q.2.2 → parseFieldDescriptor (q.2.1 k).2.2.1 = some (ty k)) ∧ ∀ k, k < q.2.2 → zkt (q.2.1 k).2.2.1 (ty k) = true := by
  intro c q hq
  match c, hq with
  | 0, hq => cases hq; exact ⟨zin_0, nmX0, tyX0, tyX0_ok, zkt_0⟩
  | 1, hq => cases hq; exact ⟨zin_1, nmX1, tyX1, tyX1_ok, zkt_1⟩
  | 2, hq => cases hq; exact ⟨zin_2, nmX2, tyX2, tyX2_ok, zkt_2⟩
  | 3, hq => cases hq; exact ⟨zin_3, nmX3, tyX3, tyX3_ok, zkt_3⟩
  | 4, hq => cases hq; exact ⟨zin_4, nmX4, tyX4, tyX4_ok, zkt_4⟩
  | 5, hq => cases hq; exact ⟨zin_5, nmX5, tyX5, tyX5_ok, zkt_5⟩
  | 6, hq => cases hq; exact ⟨zin_6, nmX6, tyX6, tyX6_ok, zkt_6⟩
  | 7, hq => cases hq; exact ⟨zin_7, nmX7, tyX7, tyX7_ok, zkt_7⟩
  | 8, hq => cases hq; exact ⟨zin_8, nmX8, tyX8, tyX8_ok, zkt_8⟩
  | 9, hq => cases hq; exact ⟨zin_9, nmX9, tyX9, tyX9_ok, zkt_9⟩
  | 10, hq => cases hq; exact ⟨zin_10, nmX10, tyX10, tyX10_ok, zkt_10⟩
  | 11, hq => cases hq; exact ⟨zin_11, nmX11, tyX11, tyX11_ok, zkt_11⟩
  | 12, hq => cases hq; exact ⟨zin_12, nmX12, tyX12, tyX12_ok, zkt_12⟩
  | c + 13, hq => simp [vwCl] at hq
set_option maxRecDepth 100000 in
theorem zk_X0_init : (zC_X0_init).all (zck 0) = true := by decide +kernel
set_option maxRecDepth 100000 in
theorem zk_X0_clear : (zC_X0_clear).all (zck 1) = true := by decide +kernel
set_option maxRecDepth 100000 in
theorem zk_X0_lastNamed : (zC_X0_lastNamed).all (zck 2) = true := by decide +kernel
set_option maxRecDepth 100000 in
theorem zk_X0_hasName : (zC_X0_hasName).all (zck 3) = true := by decide +kernel
set_option maxRecDepth 100000 in
theorem zk_X0_moneyOfOneKept : (zC_X0_moneyOfOneKept).all (zck 4) = true := by decide +kernel
set_option maxRecDepth 100000 in
theorem zk_X0_moneyOfNone : (zC_X0_moneyOfNone).all (zck 5) = true := by decide +kernel
set_option maxRecDepth 100000 in
theorem zk_X1_init : (zC_X1_init).all (zck 6) = true := by decide +kernel
set_option maxRecDepth 100000 in
theorem zk_X1_read : (zC_X1_read).all (zck 7) = true := by decide +kernel
set_option maxRecDepth 100000 in
theorem zk_X1_readStatement : (zC_X1_readStatement).all (zck 8) = true := by decide +kernel
set_option maxRecDepth 100000 in
theorem zk_X1_readLast : (zC_X1_readLast).all (zck 9) = true := by decide +kernel
set_option maxRecDepth 100000 in
theorem zk_X1_readSort : (zC_X1_readSort).all (zck 10) = true := by decide +kernel
set_option maxRecDepth 100000 in
theorem zk_X1_readStock : (zC_X1_readStock).all (zck 11) = true := by decide +kernel
set_option maxRecDepth 100000 in
theorem zk_X1_readAsk : (zC_X1_readAsk).all (zck 12) = true := by decide +kernel
set_option maxRecDepth 100000 in
theorem zk_X1_refuseKnown : (zC_X1_refuseKnown).all (zck 13) = true := by decide +kernel
set_option maxRecDepth 100000 in
theorem zk_X1_takeHundreds : (zC_X1_takeHundreds).all (zck 14) = true := by decide +kernel
set_option maxRecDepth 100000 in
theorem zk_X1_takeChances : (zC_X1_takeChances).all (zck 15) = true := by decide +kernel
set_option maxRecDepth 100000 in
theorem zk_X2_init : (zC_X2_init).all (zck 16) = true := by decide +kernel
set_option maxRecDepth 100000 in
theorem zk_X2_byteAt : (zC_X2_byteAt).all (zck 17) = true := by decide +kernel
set_option maxRecDepth 100000 in
theorem zk_X2_write : (zC_X2_write).all (zck 18) = true := by decide +kernel
set_option maxRecDepth 100000 in
theorem zk_X2_put : (zC_X2_put).all (zck 19) = true := by decide +kernel
set_option maxRecDepth 100000 in
theorem zk_X2_putRow : (zC_X2_putRow).all (zck 20) = true := by decide +kernel
set_option maxRecDepth 100000 in
theorem zk_X2_check : (zC_X2_check).all (zck 21) = true := by decide +kernel
set_option maxRecDepth 100000 in
theorem zk_X2_personAt : (zC_X2_personAt).all (zck 22) = true := by decide +kernel
set_option maxRecDepth 100000 in
theorem zk_X2_isOne : (zC_X2_isOne).all (zck 23) = true := by decide +kernel
set_option maxRecDepth 100000 in
theorem zk_X2_isPersonAt : (zC_X2_isPersonAt).all (zck 24) = true := by decide +kernel
set_option maxRecDepth 100000 in
theorem zk_X2_numberAt : (zC_X2_numberAt).all (zck 25) = true := by decide +kernel
set_option maxRecDepth 100000 in
theorem zk_X2_isCertain : (zC_X2_isCertain).all (zck 26) = true := by decide +kernel
set_option maxRecDepth 100000 in
theorem zk_X2_takeRow : (zC_X2_takeRow).all (zck 27) = true := by decide +kernel
set_option maxRecDepth 100000 in
theorem zk_X2_takePeople : (zC_X2_takePeople).all (zck 28) = true := by decide +kernel
set_option maxRecDepth 100000 in
theorem zk_X2_takeRuns : (zC_X2_takeRuns).all (zck 29) = true := by decide +kernel
set_option maxRecDepth 100000 in
theorem zk_X3_init : (zC_X3_init).all (zck 30) = true := by decide +kernel
set_option maxRecDepth 100000 in
theorem zk_X3_lean : (zC_X3_lean).all (zck 31) = true := by decide +kernel
set_option maxRecDepth 100000 in
theorem zk_X4_init : (zC_X4_init).all (zck 32) = true := by decide +kernel
set_option maxRecDepth 100000 in
theorem zk_X4_begin : (zC_X4_begin).all (zck 33) = true := by decide +kernel
set_option maxRecDepth 100000 in
theorem zk_X4_hasBox : (zC_X4_hasBox).all (zck 34) = true := by decide +kernel
set_option maxRecDepth 100000 in
theorem zk_X4_canBeSent : (zC_X4_canBeSent).all (zck 35) = true := by decide +kernel
set_option maxRecDepth 100000 in
theorem zk_X4_withinSizes : (zC_X4_withinSizes).all (zck 36) = true := by decide +kernel
set_option maxRecDepth 100000 in
theorem zk_X4_endBox : (zC_X4_endBox).all (zck 37) = true := by decide +kernel
set_option maxRecDepth 100000 in
theorem zk_X4_isSeldomHonest : (zC_X4_isSeldomHonest).all (zck 38) = true := by decide +kernel
set_option maxRecDepth 100000 in
theorem zk_X4_hasKept : (zC_X4_hasKept).all (zck 39) = true := by decide +kernel
set_option maxRecDepth 100000 in
theorem zk_X4_isAlike : (zC_X4_isAlike).all (zck 40) = true := by decide +kernel
set_option maxRecDepth 100000 in
theorem zk_X4_countKept : (zC_X4_countKept).all (zck 41) = true := by decide +kernel
set_option maxRecDepth 100000 in
theorem zk_X4_grow : (zC_X4_grow).all (zck 42) = true := by decide +kernel
set_option maxRecDepth 100000 in
theorem zk_X5_init : (zC_X5_init).all (zck 43) = true := by decide +kernel
set_option maxRecDepth 100000 in
theorem zk_X6_init : (zC_X6_init).all (zck 44) = true := by decide +kernel
set_option maxRecDepth 100000 in
theorem zk_X6_isThere : (zC_X6_isThere).all (zck 45) = true := by decide +kernel
set_option maxRecDepth 100000 in
theorem zk_X6_count : (zC_X6_count).all (zck 46) = true := by decide +kernel
set_option maxRecDepth 100000 in
theorem zk_X6_choose : (zC_X6_choose).all (zck 47) = true := by decide +kernel
set_option maxRecDepth 100000 in
theorem zk_X6_push : (zC_X6_push).all (zck 48) = true := by decide +kernel
set_option maxRecDepth 100000 in
theorem zk_X6_pop : (zC_X6_pop).all (zck 49) = true := by decide +kernel
set_option maxRecDepth 100000 in
theorem zk_X6_reckon : (zC_X6_reckon).all (zck 50) = true := by decide +kernel
set_option maxRecDepth 100000 in
theorem zk_X6_bound : (zC_X6_bound).all (zck 51) = true := by decide +kernel
set_option maxRecDepth 100000 in
theorem zk_X6_read : (zC_X6_read).all (zck 52) = true := by decide +kernel
set_option maxRecDepth 100000 in
theorem zk_X6_put : (zC_X6_put).all (zck 53) = true := by decide +kernel
set_option maxRecDepth 100000 in
theorem zk_X6_readSizes : (zC_X6_readSizes).all (zck 54) = true := by decide +kernel
set_option maxRecDepth 100000 in
theorem zk_X6_atSizeWord : (zC_X6_atSizeWord).all (zck 55) = true := by decide +kernel
set_option maxRecDepth 100000 in
theorem zk_X6_readTest : (zC_X6_readTest).all (zck 56) = true := by decide +kernel
set_option maxRecDepth 100000 in
theorem zk_X6_readBoth : (zC_X6_readBoth).all (zck 57) = true := by decide +kernel
set_option maxRecDepth 100000 in
theorem zk_X6_readFact : (zC_X6_readFact).all (zck 58) = true := by decide +kernel
set_option maxRecDepth 100000 in
theorem zk_X6_enter : (zC_X6_enter).all (zck 59) = true := by decide +kernel
set_option maxRecDepth 100000 in
theorem zk_X6_readComparison : (zC_X6_readComparison).all (zck 60) = true := by decide +kernel
set_option maxRecDepth 100000 in
theorem zk_X6_readSum : (zC_X6_readSum).all (zck 61) = true := by decide +kernel
set_option maxRecDepth 100000 in
theorem zk_X6_readProduct : (zC_X6_readProduct).all (zck 62) = true := by decide +kernel
set_option maxRecDepth 100000 in
theorem zk_X6_readPart : (zC_X6_readPart).all (zck 63) = true := by decide +kernel
set_option maxRecDepth 100000 in
theorem zk_X6_readBracket : (zC_X6_readBracket).all (zck 64) = true := by decide +kernel
set_option maxRecDepth 100000 in
theorem zk_X7_init : (zC_X7_init).all (zck 65) = true := by decide +kernel
set_option maxRecDepth 100000 in
theorem zk_X7_putOn : (zC_X7_putOn).all (zck 66) = true := by decide +kernel
set_option maxRecDepth 100000 in
theorem zk_X7_gapOf : (zC_X7_gapOf).all (zck 67) = true := by decide +kernel
set_option maxRecDepth 100000 in
theorem zk_X7_pleasesBy : (zC_X7_pleasesBy).all (zck 68) = true := by decide +kernel
set_option maxRecDepth 100000 in
theorem zk_X7_bestPair : (zC_X7_bestPair).all (zck 69) = true := by decide +kernel
set_option maxRecDepth 100000 in
theorem zk_X7_chanceOf : (zC_X7_chanceOf).all (zck 70) = true := by decide +kernel
set_option maxRecDepth 100000 in
theorem zk_X7_weigh : (zC_X7_weigh).all (zck 71) = true := by decide +kernel
set_option maxRecDepth 100000 in
theorem zk_X7_chanceThat : (zC_X7_chanceThat).all (zck 72) = true := by decide +kernel
set_option maxRecDepth 100000 in
theorem zk_X7_weighAnswer : (zC_X7_weighAnswer).all (zck 73) = true := by decide +kernel
set_option maxRecDepth 100000 in
theorem zk_X7_layOut : (zC_X7_layOut).all (zck 74) = true := by decide +kernel
set_option maxRecDepth 100000 in
theorem zk_X7_keptOf : (zC_X7_keptOf).all (zck 75) = true := by decide +kernel
set_option maxRecDepth 100000 in
theorem zk_X7_learn : (zC_X7_learn).all (zck 76) = true := by decide +kernel
set_option maxRecDepth 100000 in
theorem zk_X7_makeCertain : (zC_X7_makeCertain).all (zck 77) = true := by decide +kernel
set_option maxRecDepth 100000 in
theorem zk_X8_init : (zC_X8_init).all (zck 78) = true := by decide +kernel
set_option maxRecDepth 100000 in
theorem zk_X9_init : (zC_X9_init).all (zck 79) = true := by decide +kernel
set_option maxRecDepth 100000 in
theorem zk_X9_clear : (zC_X9_clear).all (zck 80) = true := by decide +kernel
set_option maxRecDepth 100000 in
theorem zk_X9_day : (zC_X9_day).all (zck 81) = true := by decide +kernel
set_option maxRecDepth 100000 in
theorem zk_X9_onTheWay : (zC_X9_onTheWay).all (zck 82) = true := by decide +kernel
set_option maxRecDepth 100000 in
theorem zk_X9_placeOf : (zC_X9_placeOf).all (zck 83) = true := by decide +kernel
set_option maxRecDepth 100000 in
theorem zk_X9_set : (zC_X9_set).all (zck 84) = true := by decide +kernel
set_option maxRecDepth 100000 in
theorem zk_X9_count : (zC_X9_count).all (zck 85) = true := by decide +kernel
set_option maxRecDepth 100000 in
theorem zk_X9_hasAll : (zC_X9_hasAll).all (zck 86) = true := by decide +kernel
set_option maxRecDepth 100000 in
theorem zk_X9_change : (zC_X9_change).all (zck 87) = true := by decide +kernel
set_option maxRecDepth 100000 in
theorem zk_X9_expect : (zC_X9_expect).all (zck 88) = true := by decide +kernel
set_option maxRecDepth 100000 in
theorem zk_X9_pass : (zC_X9_pass).all (zck 89) = true := by decide +kernel
set_option maxRecDepth 100000 in
theorem zk_X9_receive : (zC_X9_receive).all (zck 90) = true := by decide +kernel
set_option maxRecDepth 100000 in
theorem zk_X10_init : (zC_X10_init).all (zck 91) = true := by decide +kernel
set_option maxRecDepth 100000 in
theorem zk_X10_letterOf : (zC_X10_letterOf).all (zck 92) = true := by decide +kernel
set_option maxRecDepth 100000 in
theorem zk_X10_faultFound : (zC_X10_faultFound).all (zck 93) = true := by decide +kernel
set_option maxRecDepth 100000 in
theorem zk_X10_faultPlace : (zC_X10_faultPlace).all (zck 94) = true := by decide +kernel
set_option maxRecDepth 100000 in
theorem zk_X10_start : (zC_X10_start).all (zck 95) = true := by decide +kernel
set_option maxRecDepth 100000 in
theorem zk_X10_open : (zC_X10_open).all (zck 96) = true := by decide +kernel
set_option maxRecDepth 100000 in
theorem zk_X10_advance : (zC_X10_advance).all (zck 97) = true := by decide +kernel
set_option maxRecDepth 100000 in
theorem zk_X10_kindOf : (zC_X10_kindOf).all (zck 98) = true := by decide +kernel
set_option maxRecDepth 100000 in
theorem zk_X10_readWord : (zC_X10_readWord).all (zck 99) = true := by decide +kernel
set_option maxRecDepth 100000 in
theorem zk_X10_readNumber : (zC_X10_readNumber).all (zck 100) = true := by decide +kernel
set_option maxRecDepth 100000 in
theorem zk_X10_atEnd : (zC_X10_atEnd).all (zck 101) = true := by decide +kernel
set_option maxRecDepth 100000 in
theorem zk_X10_atNumber : (zC_X10_atNumber).all (zck 102) = true := by decide +kernel
set_option maxRecDepth 100000 in
theorem zk_X10_atSign : (zC_X10_atSign).all (zck 103) = true := by decide +kernel
set_option maxRecDepth 100000 in
theorem zk_X10_ownWord : (zC_X10_ownWord).all (zck 104) = true := by decide +kernel
set_option maxRecDepth 100000 in
theorem zk_X10_atWord : (zC_X10_atWord).all (zck 105) = true := by decide +kernel
set_option maxRecDepth 100000 in
theorem zk_X10_fail : (zC_X10_fail).all (zck 106) = true := by decide +kernel
set_option maxRecDepth 100000 in
theorem zk_X10_failHere : (zC_X10_failHere).all (zck 107) = true := by decide +kernel
set_option maxRecDepth 100000 in
theorem zk_X10_takeWord : (zC_X10_takeWord).all (zck 108) = true := by decide +kernel
set_option maxRecDepth 100000 in
theorem zk_X10_takeSign : (zC_X10_takeSign).all (zck 109) = true := by decide +kernel
set_option maxRecDepth 100000 in
theorem zk_X10_takeNumber : (zC_X10_takeNumber).all (zck 110) = true := by decide +kernel
set_option maxRecDepth 100000 in
theorem zk_X10_takeName : (zC_X10_takeName).all (zck 111) = true := by decide +kernel
set_option maxRecDepth 100000 in
theorem zk_X11_init : (zC_X11_init).all (zck 112) = true := by decide +kernel
set_option maxRecDepth 100000 in
theorem zk_X11_feed : (zC_X11_feed).all (zck 113) = true := by decide +kernel
set_option maxRecDepth 100000 in
theorem zk_X11_putOnTape : (zC_X11_putOnTape).all (zck 114) = true := by decide +kernel
set_option maxRecDepth 100000 in
theorem zk_X11_end : (zC_X11_end).all (zck 115) = true := by decide +kernel
set_option maxRecDepth 100000 in
theorem zk_X11_takeTape : (zC_X11_takeTape).all (zck 116) = true := by decide +kernel
set_option maxRecDepth 100000 in
theorem zk_X11_house : (zC_X11_house).all (zck 117) = true := by decide +kernel
set_option maxRecDepth 100000 in
theorem zk_X11_rule : (zC_X11_rule).all (zck 118) = true := by decide +kernel
set_option maxRecDepth 100000 in
theorem zk_X11_keepFault : (zC_X11_keepFault).all (zck 119) = true := by decide +kernel
set_option maxRecDepth 100000 in
theorem zk_X11_fault : (zC_X11_fault).all (zck 120) = true := by decide +kernel
set_option maxRecDepth 100000 in
theorem zk_X11_has : (zC_X11_has).all (zck 121) = true := by decide +kernel
set_option maxRecDepth 100000 in
theorem zk_X11_countBoxesOut : (zC_X11_countBoxesOut).all (zck 122) = true := by decide +kernel
set_option maxRecDepth 100000 in
theorem zk_X11_letter : (zC_X11_letter).all (zck 123) = true := by decide +kernel
set_option maxRecDepth 100000 in
theorem zk_X11_nameOf : (zC_X11_nameOf).all (zck 124) = true := by decide +kernel
set_option maxRecDepth 100000 in
theorem zk_X11_isLast : (zC_X11_isLast).all (zck 125) = true := by decide +kernel
set_option maxRecDepth 100000 in
theorem zk_X11_isSort : (zC_X11_isSort).all (zck 126) = true := by decide +kernel
set_option maxRecDepth 100000 in
theorem zk_X11_isQuestion : (zC_X11_isQuestion).all (zck 127) = true := by decide +kernel
set_option maxRecDepth 100000 in
theorem zk_X11_isPerson : (zC_X11_isPerson).all (zck 128) = true := by decide +kernel
set_option maxRecDepth 100000 in
theorem zk_X11_isSize : (zC_X11_isSize).all (zck 129) = true := by decide +kernel
set_option maxRecDepth 100000 in
theorem zk_X11_isFoot : (zC_X11_isFoot).all (zck 130) = true := by decide +kernel
set_option maxRecDepth 100000 in
theorem zk_X11_isRun : (zC_X11_isRun).all (zck 131) = true := by decide +kernel
set_option maxRecDepth 100000 in
theorem zk_X11_isBox : (zC_X11_isBox).all (zck 132) = true := by decide +kernel
set_option maxRecDepth 100000 in
theorem zk_X11_isOutcome : (zC_X11_isOutcome).all (zck 133) = true := by decide +kernel
set_option maxRecDepth 100000 in
theorem zk_X11_isInBox : (zC_X11_isInBox).all (zck 134) = true := by decide +kernel
set_option maxRecDepth 100000 in
theorem zk_X11_sortOf : (zC_X11_sortOf).all (zck 135) = true := by decide +kernel
set_option maxRecDepth 100000 in
theorem zk_X11_person : (zC_X11_person).all (zck 136) = true := by decide +kernel
set_option maxRecDepth 100000 in
theorem zk_X11_foot : (zC_X11_foot).all (zck 137) = true := by decide +kernel
set_option maxRecDepth 100000 in
theorem zk_X11_last : (zC_X11_last).all (zck 138) = true := by decide +kernel
set_option maxRecDepth 100000 in
theorem zk_X11_who : (zC_X11_who).all (zck 139) = true := by decide +kernel
set_option maxRecDepth 100000 in
theorem zk_X11_keeps : (zC_X11_keeps).all (zck 140) = true := by decide +kernel
set_option maxRecDepth 100000 in
theorem zk_X11_weigh : (zC_X11_weigh).all (zck 141) = true := by decide +kernel
set_option maxRecDepth 100000 in
theorem zk_X11_after : (zC_X11_after).all (zck 142) = true := by decide +kernel
set_option maxRecDepth 100000 in
theorem zk_X11_teaches : (zC_X11_teaches).all (zck 143) = true := by decide +kernel
set_option maxRecDepth 100000 in
theorem zk_X11_mean : (zC_X11_mean).all (zck 144) = true := by decide +kernel
set_option maxRecDepth 100000 in
theorem zk_X11_plainMean : (zC_X11_plainMean).all (zck 145) = true := by decide +kernel
set_option maxRecDepth 100000 in
theorem zk_X11_layOut : (zC_X11_layOut).all (zck 146) = true := by decide +kernel
set_option maxRecDepth 100000 in
theorem zk_X11_meanOf : (zC_X11_meanOf).all (zck 147) = true := by decide +kernel
set_option maxRecDepth 100000 in
theorem zk_X11_orderedMean : (zC_X11_orderedMean).all (zck 148) = true := by decide +kernel
set_option maxRecDepth 100000 in
theorem zk_X11_best : (zC_X11_best).all (zck 149) = true := by decide +kernel
set_option maxRecDepth 100000 in
theorem zk_X11_bestBits : (zC_X11_bestBits).all (zck 150) = true := by decide +kernel
set_option maxRecDepth 100000 in
theorem zk_X11_bestMean : (zC_X11_bestMean).all (zck 151) = true := by decide +kernel
set_option maxRecDepth 100000 in
theorem zk_X11_box : (zC_X11_box).all (zck 152) = true := by decide +kernel
set_option maxRecDepth 100000 in
theorem zk_X11_tellFacts : (zC_X11_tellFacts).all (zck 153) = true := by decide +kernel
set_option maxRecDepth 100000 in
theorem zk_X11_way : (zC_X11_way).all (zck 154) = true := by decide +kernel
set_option maxRecDepth 100000 in
theorem zk_X11_bitsOfWay : (zC_X11_bitsOfWay).all (zck 155) = true := by decide +kernel
set_option maxRecDepth 100000 in
theorem zk_X11_send : (zC_X11_send).all (zck 156) = true := by decide +kernel
set_option maxRecDepth 100000 in
theorem zk_X11_canSendNow : (zC_X11_canSendNow).all (zck 157) = true := by decide +kernel
set_option maxRecDepth 100000 in
theorem zk_X11_sendNow : (zC_X11_sendNow).all (zck 158) = true := by decide +kernel
set_option maxRecDepth 100000 in
theorem zk_X11_back : (zC_X11_back).all (zck 159) = true := by decide +kernel
set_option maxRecDepth 100000 in
theorem zk_X11_learnFromBox : (zC_X11_learnFromBox).all (zck 160) = true := by decide +kernel
set_option maxRecDepth 100000 in
theorem zk_X11_takeBack : (zC_X11_takeBack).all (zck 161) = true := by decide +kernel
set_option maxRecDepth 100000 in
theorem zk_X11_days : (zC_X11_days).all (zck 162) = true := by decide +kernel
set_option maxRecDepth 100000 in
theorem zk_X11_stock : (zC_X11_stock).all (zck 163) = true := by decide +kernel
set_option maxRecDepth 100000 in
theorem zk_X11_earned : (zC_X11_earned).all (zck 164) = true := by decide +kernel
set_option maxRecDepth 100000 in
theorem zk_X11_answer : (zC_X11_answer).all (zck 165) = true := by decide +kernel
set_option maxRecDepth 100000 in
theorem zk_X11_worth : (zC_X11_worth).all (zck 166) = true := by decide +kernel
set_option maxRecDepth 100000 in
theorem zk_X11_worthBeside : (zC_X11_worthBeside).all (zck 167) = true := by decide +kernel
set_option maxRecDepth 100000 in
theorem zk_X11_question : (zC_X11_question).all (zck 168) = true := by decide +kernel
set_option maxRecDepth 100000 in
theorem zk_X11_fee : (zC_X11_fee).all (zck 169) = true := by decide +kernel
set_option maxRecDepth 100000 in
theorem zk_X11_step : (zC_X11_step).all (zck 170) = true := by decide +kernel
set_option maxRecDepth 100000 in
theorem zk_X11_print : (zC_X11_print).all (zck 171) = true := by decide +kernel
set_option maxRecDepth 100000 in
theorem zk_X11_alike : (zC_X11_alike).all (zck 172) = true := by decide +kernel
set_option maxRecDepth 100000 in
theorem zk_X11_strangers : (zC_X11_strangers).all (zck 173) = true := by decide +kernel
set_option maxRecDepth 100000 in
theorem zk_X11_hold : (zC_X11_hold).all (zck 174) = true := by decide +kernel
set_option maxRecDepth 100000 in
theorem zk_X11_year : (zC_X11_year).all (zck 175) = true := by decide +kernel
set_option maxRecDepth 100000 in
theorem zk_X11_draw : (zC_X11_draw).all (zck 176) = true := by decide +kernel
set_option maxRecDepth 100000 in
theorem zk_X11_drawOfCertain : (zC_X11_drawOfCertain).all (zck 177) = true := by decide +kernel
set_option maxRecDepth 100000 in
theorem zk_X11_drawFrom : (zC_X11_drawFrom).all (zck 178) = true := by decide +kernel
set_option maxRecDepth 100000 in
theorem zk_X11_truth : (zC_X11_truth).all (zck 179) = true := by decide +kernel
set_option maxRecDepth 100000 in
theorem zk_X11_trial : (zC_X11_trial).all (zck 180) = true := by decide +kernel
set_option maxRecDepth 100000 in
theorem zk_X11_hasTruth : (zC_X11_hasTruth).all (zck 181) = true := by decide +kernel
set_option maxRecDepth 100000 in
theorem zk_X11_drawOutcome : (zC_X11_drawOutcome).all (zck 182) = true := by decide +kernel
set_option maxRecDepth 100000 in
theorem zk_X11_image : (zC_X11_image).all (zck 183) = true := by decide +kernel
set_option maxRecDepth 100000 in
theorem zk_X11_octet : (zC_X11_octet).all (zck 184) = true := by decide +kernel
set_option maxRecDepth 100000 in
theorem zk_X11_on : (zC_X11_on).all (zck 185) = true := by decide +kernel
set_option maxRecDepth 100000 in
theorem zk_X11_bringBoxesHome : (zC_X11_bringBoxesHome).all (zck 186) = true := by decide +kernel
set_option maxRecDepth 100000 in
theorem zk_X12_init_0 : (zC_X12_init_0).all (zck 187) = true := by decide +kernel
set_option maxRecDepth 100000 in
theorem zk_X12_init_1 : (zC_X12_init_1).all (zck 187) = true := by decide +kernel
set_option maxRecDepth 100000 in
theorem zk_X12_init_2 : (zC_X12_init_2).all (zck 187) = true := by decide +kernel
set_option maxRecDepth 100000 in
theorem zk_X12_init_3 : (zC_X12_init_3).all (zck 187) = true := by decide +kernel
set_option maxRecDepth 100000 in
theorem zk_X12_init_4 : (zC_X12_init_4).all (zck 187) = true := by decide +kernel
set_option maxRecDepth 100000 in
theorem zk_X12_init_5 : (zC_X12_init_5).all (zck 187) = true := by decide +kernel
theorem zk_X12_init : (zC_X12_init).all (zck 187) = true := by
  unfold zC_X12_init
  simp only [List.all_append, Bool.and_eq_true]
  exact ⟨zk_X12_init_0, ⟨zk_X12_init_1, ⟨zk_X12_init_2, ⟨zk_X12_init_3, ⟨zk_X12_init_4, zk_X12_init_5⟩⟩⟩⟩⟩
set_option maxRecDepth 100000 in
theorem zk_X12_isIn : (zC_X12_isIn).all (zck 188) = true := by decide +kernel
set_option maxRecDepth 100000 in
theorem zk_X12_feed : (zC_X12_feed).all (zck 189) = true := by decide +kernel
set_option maxRecDepth 100000 in
theorem zk_X12_end : (zC_X12_end).all (zck 190) = true := by decide +kernel
set_option maxRecDepth 100000 in
theorem zk_X12_fail : (zC_X12_fail).all (zck 191) = true := by decide +kernel
set_option maxRecDepth 100000 in
theorem zk_X12_isLetter : (zC_X12_isLetter).all (zck 192) = true := by decide +kernel
set_option maxRecDepth 100000 in
theorem zk_X12_isDigit : (zC_X12_isDigit).all (zck 193) = true := by decide +kernel
set_option maxRecDepth 100000 in
theorem zk_X12_look : (zC_X12_look).all (zck 194) = true := by decide +kernel
set_option maxRecDepth 100000 in
theorem zk_X12_isHere : (zC_X12_isHere).all (zck 195) = true := by decide +kernel
set_option maxRecDepth 100000 in
theorem zk_X12_takes : (zC_X12_takes).all (zck 196) = true := by decide +kernel
set_option maxRecDepth 100000 in
theorem zk_X12_asks : (zC_X12_asks).all (zck 197) = true := by decide +kernel
set_option maxRecDepth 100000 in
theorem zk_X12_takesSign : (zC_X12_takesSign).all (zck 198) = true := by decide +kernel
set_option maxRecDepth 100000 in
theorem zk_X12_asksSign : (zC_X12_asksSign).all (zck 199) = true := by decide +kernel
set_option maxRecDepth 100000 in
theorem zk_X12_number : (zC_X12_number).all (zck 200) = true := by decide +kernel
set_option maxRecDepth 100000 in
theorem zk_X12_isOwnHere_0 : (zC_X12_isOwnHere_0).all (zck 201) = true := by decide +kernel
set_option maxRecDepth 100000 in
theorem zk_X12_isOwnHere_1 : (zC_X12_isOwnHere_1).all (zck 201) = true := by decide +kernel
theorem zk_X12_isOwnHere : (zC_X12_isOwnHere).all (zck 201) = true := by
  unfold zC_X12_isOwnHere
  simp only [List.all_append, Bool.and_eq_true]
  exact ⟨zk_X12_isOwnHere_0, zk_X12_isOwnHere_1⟩
set_option maxRecDepth 100000 in
theorem zk_X12_name : (zC_X12_name).all (zck 202) = true := by decide +kernel
set_option maxRecDepth 100000 in
theorem zk_X12_begins : (zC_X12_begins).all (zck 203) = true := by decide +kernel
set_option maxRecDepth 100000 in
theorem zk_X12_nameOf : (zC_X12_nameOf).all (zck 204) = true := by decide +kernel
set_option maxRecDepth 100000 in
theorem zk_X12_newName : (zC_X12_newName).all (zck 205) = true := by decide +kernel
set_option maxRecDepth 100000 in
theorem zk_X12_isFull : (zC_X12_isFull).all (zck 206) = true := by decide +kernel
set_option maxRecDepth 100000 in
theorem zk_X12_chances : (zC_X12_chances).all (zck 207) = true := by decide +kernel
set_option maxRecDepth 100000 in
theorem zk_X12_lastTold : (zC_X12_lastTold).all (zck 208) = true := by decide +kernel
set_option maxRecDepth 100000 in
theorem zk_X12_sortTold : (zC_X12_sortTold).all (zck 209) = true := by decide +kernel
set_option maxRecDepth 100000 in
theorem zk_X12_askTold : (zC_X12_askTold).all (zck 210) = true := by decide +kernel
set_option maxRecDepth 100000 in
theorem zk_X12_keepsTold : (zC_X12_keepsTold).all (zck 211) = true := by decide +kernel
set_option maxRecDepth 100000 in
theorem zk_X12_stockTold : (zC_X12_stockTold).all (zck 212) = true := by decide +kernel
set_option maxRecDepth 100000 in
theorem zk_X12_houseTold : (zC_X12_houseTold).all (zck 213) = true := by decide +kernel
set_option maxRecDepth 100000 in
theorem zk_X12_house : (zC_X12_house).all (zck 214) = true := by decide +kernel
set_option maxRecDepth 100000 in
theorem zk_X12_stands_0 : (zC_X12_stands_0).all (zck 215) = true := by decide +kernel
set_option maxRecDepth 100000 in
theorem zk_X12_stands_1 : (zC_X12_stands_1).all (zck 215) = true := by decide +kernel
theorem zk_X12_stands : (zC_X12_stands).all (zck 215) = true := by
  unfold zC_X12_stands
  simp only [List.all_append, Bool.and_eq_true]
  exact ⟨zk_X12_stands_0, zk_X12_stands_1⟩
set_option maxRecDepth 100000 in
theorem zk_X12_code : (zC_X12_code).all (zck 216) = true := by decide +kernel
set_option maxRecDepth 100000 in
theorem zk_X12_opens : (zC_X12_opens).all (zck 217) = true := by decide +kernel
set_option maxRecDepth 100000 in
theorem zk_X12_isOn : (zC_X12_isOn).all (zck 218) = true := by decide +kernel
set_option maxRecDepth 100000 in
theorem zk_X12_drops : (zC_X12_drops).all (zck 219) = true := by decide +kernel
set_option maxRecDepth 100000 in
theorem zk_X12_isMark : (zC_X12_isMark).all (zck 220) = true := by decide +kernel
set_option maxRecDepth 100000 in
theorem zk_X12_mark : (zC_X12_mark).all (zck 221) = true := by decide +kernel
set_option maxRecDepth 100000 in
theorem zk_X12_dropsToMark : (zC_X12_dropsToMark).all (zck 222) = true := by decide +kernel
set_option maxRecDepth 100000 in
theorem zk_X12_onePart_0 : (zC_X12_onePart_0).all (zck 223) = true := by decide +kernel
set_option maxRecDepth 100000 in
theorem zk_X12_onePart_1 : (zC_X12_onePart_1).all (zck 223) = true := by decide +kernel
theorem zk_X12_onePart : (zC_X12_onePart).all (zck 223) = true := by
  unfold zC_X12_onePart
  simp only [List.all_append, Bool.and_eq_true]
  exact ⟨zk_X12_onePart_0, zk_X12_onePart_1⟩
set_option maxRecDepth 100000 in
theorem zk_X12_goesOn_0 : (zC_X12_goesOn_0).all (zck 224) = true := by decide +kernel
set_option maxRecDepth 100000 in
theorem zk_X12_goesOn_1 : (zC_X12_goesOn_1).all (zck 224) = true := by decide +kernel
theorem zk_X12_goesOn : (zC_X12_goesOn).all (zck 224) = true := by
  unfold zC_X12_goesOn
  simp only [List.all_append, Bool.and_eq_true]
  exact ⟨zk_X12_goesOn_0, zk_X12_goesOn_1⟩
set_option maxRecDepth 100000 in
theorem zk_X12_sums : (zC_X12_sums).all (zck 225) = true := by decide +kernel
set_option maxRecDepth 100000 in
theorem zk_X12_fact : (zC_X12_fact).all (zck 226) = true := by decide +kernel
set_option maxRecDepth 100000 in
theorem zk_X12_hasSquare : (zC_X12_hasSquare).all (zck 227) = true := by decide +kernel
set_option maxRecDepth 100000 in
theorem zk_X12_dropsNots : (zC_X12_dropsNots).all (zck 228) = true := by decide +kernel
set_option maxRecDepth 100000 in
theorem zk_X12_test : (zC_X12_test).all (zck 229) = true := by decide +kernel
set_option maxRecDepth 100000 in
theorem zk_X12_goesOnTest : (zC_X12_goesOnTest).all (zck 230) = true := by decide +kernel
set_option maxRecDepth 100000 in
theorem zk_X12_sizeTold : (zC_X12_sizeTold).all (zck 231) = true := by decide +kernel
set_option maxRecDepth 100000 in
theorem zk_X12_sizesTold : (zC_X12_sizesTold).all (zck 232) = true := by decide +kernel
set_option maxRecDepth 100000 in
theorem zk_X12_sendTold : (zC_X12_sendTold).all (zck 233) = true := by decide +kernel
set_option maxRecDepth 100000 in
theorem zk_X12_rule : (zC_X12_rule).all (zck 234) = true := by decide +kernel
set_option maxRecDepth 100000 in
theorem zk_X12_fault : (zC_X12_fault).all (zck 235) = true := by decide +kernel
set_option maxRecDepth 100000 in
theorem zk_X12_lasts : (zC_X12_lasts).all (zck 236) = true := by decide +kernel
set_option maxRecDepth 100000 in
theorem zk_X12_has : (zC_X12_has).all (zck 237) = true := by decide +kernel
set_option maxRecDepth 100000 in
theorem zk_X12_letter : (zC_X12_letter).all (zck 238) = true := by decide +kernel
set_option maxRecDepth 100000 in
theorem zk_X12_isPerson : (zC_X12_isPerson).all (zck 239) = true := by decide +kernel
set_option maxRecDepth 100000 in
theorem zk_X12_isLast : (zC_X12_isLast).all (zck 240) = true := by decide +kernel
set_option maxRecDepth 100000 in
theorem zk_X12_comes : (zC_X12_comes).all (zck 241) = true := by decide +kernel
set_option maxRecDepth 100000 in
theorem zk_X12_isAsked : (zC_X12_isAsked).all (zck 242) = true := by decide +kernel
set_option maxRecDepth 100000 in
theorem zk_X12_person : (zC_X12_person).all (zck 243) = true := by decide +kernel
set_option maxRecDepth 100000 in
theorem zk_X12_foot : (zC_X12_foot).all (zck 244) = true := by decide +kernel
set_option maxRecDepth 100000 in
theorem zk_X12_last : (zC_X12_last).all (zck 245) = true := by decide +kernel
set_option maxRecDepth 100000 in
theorem zk_X12_pairsKept : (zC_X12_pairsKept).all (zck 246) = true := by decide +kernel
set_option maxRecDepth 100000 in
theorem zk_X12_who : (zC_X12_who).all (zck 247) = true := by decide +kernel
set_option maxRecDepth 100000 in
theorem zk_X12_pairsOf : (zC_X12_pairsOf).all (zck 248) = true := by decide +kernel
set_option maxRecDepth 100000 in
theorem zk_X12_isBox : (zC_X12_isBox).all (zck 249) = true := by decide +kernel
set_option maxRecDepth 100000 in
theorem zk_X12_pleases : (zC_X12_pleases).all (zck 250) = true := by decide +kernel
set_option maxRecDepth 100000 in
theorem zk_X12_bestPair : (zC_X12_bestPair).all (zck 251) = true := by decide +kernel
set_option maxRecDepth 100000 in
theorem zk_X12_likely : (zC_X12_likely).all (zck 252) = true := by decide +kernel
set_option maxRecDepth 100000 in
theorem zk_X12_weights : (zC_X12_weights).all (zck 253) = true := by decide +kernel
set_option maxRecDepth 100000 in
theorem zk_X12_keeps : (zC_X12_keeps).all (zck 254) = true := by decide +kernel
set_option maxRecDepth 100000 in
theorem zk_X12_money : (zC_X12_money).all (zck 255) = true := by decide +kernel
set_option maxRecDepth 100000 in
theorem zk_X12_floorOf : (zC_X12_floorOf).all (zck 256) = true := by decide +kernel
set_option maxRecDepth 100000 in
theorem zk_X12_meanOf : (zC_X12_meanOf).all (zck 257) = true := by decide +kernel
set_option maxRecDepth 100000 in
theorem zk_X12_ordered : (zC_X12_ordered).all (zck 258) = true := by decide +kernel
set_option maxRecDepth 100000 in
theorem zk_X12_mean : (zC_X12_mean).all (zck 259) = true := by decide +kernel
set_option maxRecDepth 100000 in
theorem zk_X12_stockAt : (zC_X12_stockAt).all (zck 260) = true := by decide +kernel
set_option maxRecDepth 100000 in
theorem zk_X12_isInStock : (zC_X12_isInStock).all (zck 261) = true := by decide +kernel
set_option maxRecDepth 100000 in
theorem zk_X12_bestBox : (zC_X12_bestBox).all (zck 262) = true := by decide +kernel
set_option maxRecDepth 100000 in
theorem zk_X12_best : (zC_X12_best).all (zck 263) = true := by decide +kernel
set_option maxRecDepth 100000 in
theorem zk_X12_clip : (zC_X12_clip).all (zck 264) = true := by decide +kernel
set_option maxRecDepth 100000 in
theorem zk_X12_floor : (zC_X12_floor).all (zck 265) = true := by decide +kernel
set_option maxRecDepth 100000 in
theorem zk_X12_puts : (zC_X12_puts).all (zck 266) = true := by decide +kernel
set_option maxRecDepth 100000 in
theorem zk_X12_joins : (zC_X12_joins).all (zck 267) = true := by decide +kernel
set_option maxRecDepth 100000 in
theorem zk_X12_holds : (zC_X12_holds).all (zck 268) = true := by decide +kernel
set_option maxRecDepth 100000 in
theorem zk_X12_asked : (zC_X12_asked).all (zck 269) = true := by decide +kernel
set_option maxRecDepth 100000 in
theorem zk_X12_cut : (zC_X12_cut).all (zck 270) = true := by decide +kernel
set_option maxRecDepth 100000 in
theorem zk_X12_ruled : (zC_X12_ruled).all (zck 271) = true := by decide +kernel
set_option maxRecDepth 100000 in
theorem zk_X12_isRuled : (zC_X12_isRuled).all (zck 272) = true := by decide +kernel
set_option maxRecDepth 100000 in
theorem zk_X12_box : (zC_X12_box).all (zck 273) = true := by decide +kernel
set_option maxRecDepth 100000 in
theorem zk_X12_wayBox : (zC_X12_wayBox).all (zck 274) = true := by decide +kernel
set_option maxRecDepth 100000 in
theorem zk_X12_isWay : (zC_X12_isWay).all (zck 275) = true := by decide +kernel
set_option maxRecDepth 100000 in
theorem zk_X12_way : (zC_X12_way).all (zck 276) = true := by decide +kernel
set_option maxRecDepth 100000 in
theorem zk_X12_sent : (zC_X12_sent).all (zck 277) = true := by decide +kernel
set_option maxRecDepth 100000 in
theorem zk_X12_send : (zC_X12_send).all (zck 278) = true := by decide +kernel
set_option maxRecDepth 100000 in
theorem zk_X12_takes_ : (zC_X12_takes_).all (zck 279) = true := by decide +kernel
set_option maxRecDepth 100000 in
theorem zk_X12_wouldLearn : (zC_X12_wouldLearn).all (zck 280) = true := by decide +kernel
set_option maxRecDepth 100000 in
theorem zk_X12_learns : (zC_X12_learns).all (zck 281) = true := by decide +kernel
set_option maxRecDepth 100000 in
theorem zk_X12_isTaught : (zC_X12_isTaught).all (zck 282) = true := by decide +kernel
set_option maxRecDepth 100000 in
theorem zk_X12_after : (zC_X12_after).all (zck 283) = true := by decide +kernel
set_option maxRecDepth 100000 in
theorem zk_X12_teaches : (zC_X12_teaches).all (zck 284) = true := by decide +kernel
set_option maxRecDepth 100000 in
theorem zk_X12_cameBack : (zC_X12_cameBack).all (zck 285) = true := by decide +kernel
set_option maxRecDepth 100000 in
theorem zk_X12_back : (zC_X12_back).all (zck 286) = true := by decide +kernel
set_option maxRecDepth 100000 in
theorem zk_X12_days : (zC_X12_days).all (zck 287) = true := by decide +kernel
set_option maxRecDepth 100000 in
theorem zk_X12_stock : (zC_X12_stock).all (zck 288) = true := by decide +kernel
set_option maxRecDepth 100000 in
theorem zk_X12_earned : (zC_X12_earned).all (zck 289) = true := by decide +kernel
set_option maxRecDepth 100000 in
theorem zk_X12_isQuestion : (zC_X12_isQuestion).all (zck 290) = true := by decide +kernel
set_option maxRecDepth 100000 in
theorem zk_X12_chance : (zC_X12_chance).all (zck 291) = true := by decide +kernel
set_option maxRecDepth 100000 in
theorem zk_X12_allOf : (zC_X12_allOf).all (zck 292) = true := by decide +kernel
set_option maxRecDepth 100000 in
theorem zk_X12_answered : (zC_X12_answered).all (zck 293) = true := by decide +kernel
set_option maxRecDepth 100000 in
theorem zk_X12_answer : (zC_X12_answer).all (zck 294) = true := by decide +kernel
set_option maxRecDepth 100000 in
theorem zk_X12_behind : (zC_X12_behind).all (zck 295) = true := by decide +kernel
set_option maxRecDepth 100000 in
theorem zk_X12_worth : (zC_X12_worth).all (zck 296) = true := by decide +kernel
set_option maxRecDepth 100000 in
theorem zk_X12_question : (zC_X12_question).all (zck 297) = true := by decide +kernel
set_option maxRecDepth 100000 in
theorem zk_X12_fee : (zC_X12_fee).all (zck 298) = true := by decide +kernel
set_option maxRecDepth 100000 in
theorem zk_X12_step : (zC_X12_step).all (zck 299) = true := by decide +kernel
set_option maxRecDepth 100000 in
theorem zk_X12_print : (zC_X12_print).all (zck 300) = true := by decide +kernel
set_option maxRecDepth 100000 in
theorem zk_X12_areAlike : (zC_X12_areAlike).all (zck 301) = true := by decide +kernel
set_option maxRecDepth 100000 in
theorem zk_X12_alike : (zC_X12_alike).all (zck 302) = true := by decide +kernel
set_option maxRecDepth 100000 in
theorem zk_X12_strangers : (zC_X12_strangers).all (zck 303) = true := by decide +kernel
set_option maxRecDepth 100000 in
theorem zk_X12_hold : (zC_X12_hold).all (zck 304) = true := by decide +kernel
set_option maxRecDepth 100000 in
theorem zk_X12_year : (zC_X12_year).all (zck 305) = true := by decide +kernel
set_option maxRecDepth 100000 in
theorem zk_X12_drawOf : (zC_X12_drawOf).all (zck 306) = true := by decide +kernel
set_option maxRecDepth 100000 in
theorem zk_X12_drawnOf : (zC_X12_drawnOf).all (zck 307) = true := by decide +kernel
set_option maxRecDepth 100000 in
theorem zk_X12_draw : (zC_X12_draw).all (zck 308) = true := by decide +kernel
set_option maxRecDepth 100000 in
theorem zk_X12_truth : (zC_X12_truth).all (zck 309) = true := by decide +kernel
set_option maxRecDepth 100000 in
theorem zk_X12_trial : (zC_X12_trial).all (zck 310) = true := by decide +kernel
set_option maxRecDepth 100000 in
theorem zk_X12_writes : (zC_X12_writes).all (zck 311) = true := by decide +kernel
set_option maxRecDepth 100000 in
theorem zk_X12_writesTwo : (zC_X12_writesTwo).all (zck 312) = true := by decide +kernel
set_option maxRecDepth 100000 in
theorem zk_X12_checked : (zC_X12_checked).all (zck 313) = true := by decide +kernel
set_option maxRecDepth 100000 in
theorem zk_X12_image : (zC_X12_image).all (zck 314) = true := by decide +kernel
set_option maxRecDepth 100000 in
theorem zk_X12_octet : (zC_X12_octet).all (zck 315) = true := by decide +kernel
set_option maxRecDepth 100000 in
theorem zk_X12_twoAt : (zC_X12_twoAt).all (zck 316) = true := by decide +kernel
set_option maxRecDepth 100000 in
theorem zk_X12_isWhole : (zC_X12_isWhole).all (zck 317) = true := by decide +kernel
set_option maxRecDepth 100000 in
theorem zk_X12_isTold : (zC_X12_isTold).all (zck 318) = true := by decide +kernel
set_option maxRecDepth 100000 in
theorem zk_X12_on_0 : (zC_X12_on_0).all (zck 319) = true := by decide +kernel
set_option maxRecDepth 100000 in
theorem zk_X12_on_1 : (zC_X12_on_1).all (zck 319) = true := by decide +kernel
theorem zk_X12_on : (zC_X12_on).all (zck 319) = true := by
  unfold zC_X12_on
  simp only [List.all_append, Bool.and_eq_true]
  exact ⟨zk_X12_on_0, zk_X12_on_1⟩
set_option maxRecDepth 100000 in
theorem zk_J6_bitCount_0f7a4 : (zC_J6_bitCount_0f7a4).all (zck 320) = true := by decide +kernel
set_option maxRecDepth 100000 in
theorem zk_J9_floorDiv_7cf53 : (zC_J9_floorDiv_7cf53).all (zck 321) = true := by decide +kernel
set_option maxRecDepth 100000 in
theorem zk_J9_floorDiv_f86c9 : (zC_J9_floorDiv_f86c9).all (zck 322) = true := by decide +kernel
set_option maxRecDepth 100000 in
theorem zk_J9_floorMod_7cf53 : (zC_J9_floorMod_7cf53).all (zck 323) = true := by decide +kernel
set_option maxRecDepth 100000 in
theorem zk_J9_max_7cf53 : (zC_J9_max_7cf53).all (zck 324) = true := by decide +kernel
set_option maxRecDepth 100000 in
theorem zk_J9_max_f86c9 : (zC_J9_max_f86c9).all (zck 325) = true := by decide +kernel
set_option maxRecDepth 100000 in
theorem zk_J9_min_7cf53 : (zC_J9_min_7cf53).all (zck 326) = true := by decide +kernel
set_option maxRecDepth 100000 in
theorem zk_J9_min_f86c9 : (zC_J9_min_f86c9).all (zck 327) = true := by decide +kernel
set_option maxRecDepth 100000 in
theorem zk_J0_length_8abf5 : (zC_J0_length_8abf5).all (zck 328) = true := by decide +kernel
set_option maxRecDepth 100000 in
theorem zk_J0_charAt_5068e : (zC_J0_charAt_5068e).all (zck 329) = true := by decide +kernel
set_option maxRecDepth 100000 in
theorem zk_J0_coder_7d493 : (zC_J0_coder_7d493).all (zck 330) = true := by decide +kernel
set_option maxRecDepth 100000 in
theorem zk_J0_isLatin1_aae02 : (zC_J0_isLatin1_aae02).all (zck 331) = true := by decide +kernel
set_option maxRecDepth 100000 in
theorem zk_J0_checkIndex_df160 : (zC_J0_checkIndex_df160).all (zck 332) = true := by decide +kernel
set_option maxRecDepth 100000 in
theorem zk_J1_charAt_3b067 : (zC_J1_charAt_3b067).all (zck 333) = true := by decide +kernel
set_option maxRecDepth 100000 in
theorem zk_J7_fill_d0a16 : (zC_J7_fill_d0a16).all (zck 334) = true := by decide +kernel
set_option maxRecDepth 100000 in
theorem zk_J7_fill_53178 : (zC_J7_fill_53178).all (zck 335) = true := by decide +kernel
set_option maxRecDepth 100000 in
theorem zk_J7_copyOf_59c91 : (zC_J7_copyOf_59c91).all (zck 336) = true := by decide +kernel
set_option maxRecDepth 100000 in
theorem zk_J3_checkIndex_8e157 : (zC_J3_checkIndex_8e157).all (zck 337) = true := by decide +kernel
set_option maxRecDepth 100000 in
theorem zk_L_law_0 : (zC_L_law_0).all (zck 338) = true := by decide +kernel
set_option maxRecDepth 100000 in
theorem zk_L_law_1 : (zC_L_law_1).all (zck 338) = true := by decide +kernel
set_option maxRecDepth 100000 in
theorem zk_L_law_2 : (zC_L_law_2).all (zck 338) = true := by decide +kernel
set_option maxRecDepth 100000 in
theorem zk_L_law_3 : (zC_L_law_3).all (zck 338) = true := by decide +kernel
set_option maxRecDepth 100000 in
theorem zk_L_law_4 : (zC_L_law_4).all (zck 338) = true := by decide +kernel
set_option maxRecDepth 100000 in
theorem zk_L_law_5 : (zC_L_law_5).all (zck 338) = true := by decide +kernel
set_option maxRecDepth 100000 in
theorem zk_L_law_6 : (zC_L_law_6).all (zck 338) = true := by decide +kernel
set_option maxRecDepth 100000 in
theorem zk_L_law_7 : (zC_L_law_7).all (zck 338) = true := by decide +kernel
theorem zk_L_law : (zC_L_law).all (zck 338) = true := by
  unfold zC_L_law
  simp only [List.all_append, Bool.and_eq_true]
  exact ⟨zk_L_law_0, ⟨zk_L_law_1, ⟨zk_L_law_2, ⟨zk_L_law_3, ⟨zk_L_law_4, ⟨zk_L_law_5, ⟨zk_L_law_6, zk_L_law_7⟩⟩⟩⟩⟩⟩⟩
