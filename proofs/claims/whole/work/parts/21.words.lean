abbrev mi_J7_fill_53178 : MI := (cJ7_fill_53178, 4, RJ7, none, 1, 0, 0, "fill")
abbrev mi_J0_coder_7d493 : MI := (cJ0_coder_7d493, 1, RJ0, some .byte, 1, 0, 0, "coder")
abbrev mi_J0_length_8abf5 : MI := (cJ0_length_8abf5, 1, RJ0, some .int, 2, 0, 0, "length")
abbrev mi_J0_isLatin1_aae02 : MI := (cJ0_isLatin1_aae02, 1, RJ0, some .boolean, 1, 0, 0, "isLatin1")
abbrev mi_J3_checkIndex_8e157 : MI := (cJ3_checkIndex_8e157, 3, RJ3, some .int, 1, 0, 0, "checkIndex")
abbrev mi_J0_checkIndex_df160 : MI := (cJ0_checkIndex_df160, 2, RJ0, none, 2, 0, 0, "checkIndex")
abbrev mi_J1_charAt_3b067 : MI := (cJ1_charAt_3b067, 2, RJ1, some .char, 3, 0, 0, "charAt")
abbrev mi_J0_charAt_5068e : MI := (cJ0_charAt_5068e, 2, RJ0, some .char, 4, 0, 0, "charAt")
abbrev mi_J7_copyOf_59c91 : MI := (cJ7_copyOf_59c91, 3, RJ7, some (.array .int), 1, 1, 600, "copyOf")
abbrev mi_Jxa1e45_init_da8c8 : MI := (cJxa1e45_init_da8c8, 1, RJxa1e45, none, 1, 0, 0, "<init>")
abbrev mi_Jxc12de_init_da8c8 : MI := (cJxc12de_init_da8c8, 1, RJxc12de, none, 2, 0, 0, "<init>")
abbrev mi_Jx4a65c_init_da8c8 : MI := (cJx4a65c_init_da8c8, 1, RJx4a65c, none, 3, 0, 0, "<init>")
abbrev mi_Jx4a65c_size_8abf5 : MI := (cJx4a65c_size_8abf5, 1, RJx4a65c, some .int, 1, 0, 0, "size")
abbrev mi_J8_hugeLength_7cf53 : MI := (cJ8_hugeLength_7cf53, 3, RJ8, some .int, 1, 0, 0, "hugeLength")
abbrev mi_J8_newLength_cabcc : MI := (cJ8_newLength_cabcc, 4, RJ8, some .int, 2, 0, 0, "newLength")
abbrev mi_J7_copyOf_6403c : MI := (cJ7_copyOf_6403c, 4, RJ7, some (.array (.object "java/lang/Object")), 1, 1, 80, "copyOf")
abbrev mi_J7_copyOf_1904c : MI := (cJ7_copyOf_1904c, 2, RJ7, some (.array (.object "java/lang/Object")), 2, 1, 80, "copyOf")
abbrev mi_Jx4a65c_grow_92f84 : MI := (cJx4a65c_grow_92f84, 4, RJx4a65c, some (.array (.object "java/lang/Object")), 3, 1, 80, "grow")
abbrev mi_Jx4a65c_grow_d5877 : MI := (cJx4a65c_grow_d5877, 1, RJx4a65c, some (.array (.object "java/lang/Object")), 4, 1, 80, "grow")
abbrev mi_Jx4a65c_add_72be8 : MI := (cJx4a65c_add_72be8, 4, RJx4a65c, none, 5, 1, 80, "add")
abbrev mi_Jx4a65c_add_9ea2d : MI := (cJx4a65c_add_9ea2d, 2, RJx4a65c, some .boolean, 6, 1, 80, "add")
abbrev mi_J15_checkIndex_7cf53 : MI := (cJ15_checkIndex_7cf53, 2, RJ15, some .int, 2, 0, 0, "checkIndex")
abbrev mi_Jx4a65c_elementData_915e3 : MI := (cJx4a65c_elementData_915e3, 2, RJx4a65c, some (.object "java/lang/Object"), 1, 0, 0, "elementData")
abbrev mi_Jx4a65c_get_915e3 : MI := (cJx4a65c_get_915e3, 2, RJx4a65c, some (.object "java/lang/Object"), 3, 0, 0, "get")
abbrev mi_X0_init : MI := (cX0_init, 4, RX0, none, 1, 2, 250, "<init>")
abbrev mi_X0_runsIn : MI := (cX0_runsIn, 2, RX0, some .boolean, 1, 0, 0, "runsIn")
abbrev mi_X0_weeksRunIn : MI := (cX0_weeksRunIn, 4, RX0, some .int, 2, 0, 0, "weeksRunIn")
abbrev mi_X0_receive : MI := (cX0_receive, 2, RX0, none, 1, 0, 0, "receive")
abbrev mi_X0_isThere : MI := (cX0_isThere, 2, RX0, some .boolean, 1, 0, 0, "isThere")
abbrev mi_X8_isWithin : MI := (cX8_isWithin, 3, RX8, some .boolean, 1, 0, 0, "isWithin")
abbrev mi_X0_print : MI := (cX0_print, 4, RX0, none, 2, 0, 0, "print")
abbrev mi_X0_printedIn : MI := (cX0_printedIn, 2, RX0, some .int, 2, 0, 0, "printedIn")
abbrev mi_X0_nextPanel : MI := (cX0_nextPanel, 1, RX0, some .int, 1, 0, 0, "nextPanel")
abbrev mi_X0_gap : MI := (cX0_gap, 1, RX0, some .int, 1, 0, 0, "gap")
abbrev mi_X0_missing : MI := (cX0_missing, 3, RX0, some .int, 2, 0, 0, "missing")
abbrev mi_X0_sendAgain : MI := (cX0_sendAgain, 2, RX0, some .int, 1, 0, 0, "sendAgain")
abbrev mi_X0_addBill : MI := (cX0_addBill, 2, RX0, none, 1, 0, 0, "addBill")
abbrev mi_X1_init : MI := (cX1_init, 7, RX1, none, 1, 1, 3, "<init>")
abbrev mi_X1_draw : MI := (cX1_draw, 2, RX1, none, 1, 0, 0, "draw")
abbrev mi_X1_allShares : MI := (cX1_allShares, 4, RX1, some .long, 1, 0, 0, "allShares")
abbrev mi_X1_shareOf : MI := (cX1_shareOf, 2, RX1, some .int, 2, 0, 0, "shareOf")
abbrev mi_X1_cutOf : MI := (cX1_cutOf, 4, RX1, some .long, 3, 0, 0, "cutOf")
abbrev mi_X1_restOf : MI := (cX1_restOf, 4, RX1, some .long, 3, 0, 0, "restOf")
abbrev mi_X1_placeByRest : MI := (cX1_placeByRest, 8, RX1, some .int, 4, 0, 0, "placeByRest")
abbrev mi_X1_coinsOf : MI := (cX1_coinsOf, 5, RX1, some .int, 5, 0, 0, "coinsOf")
abbrev mi_X2_init : MI := (cX2_init, 5, RX2, none, 2, 1, 51, "<init>")
abbrev mi_X2_sellFrom : MI := (cX2_sellFrom, 4, RX2, none, 1, 0, 0, "sellFrom")
abbrev mi_X2_putRight : MI := (cX2_putRight, 3, RX2, none, 2, 0, 0, "putRight")
abbrev mi_X2_soldIn : MI := (cX2_soldIn, 2, RX2, some .int, 2, 0, 0, "soldIn")
abbrev mi_X2_isNearer : MI := (cX2_isNearer, 5, RX2, some .boolean, 1, 0, 0, "isNearer")
abbrev mi_X3_init : MI := (cX3_init, 3, RX3, none, 1, 0, 0, "<init>")
abbrev mi_X4_init : MI := (cX4_init, 1, RX4, none, 1, 2, 37, "<init>")
abbrev mi_X4_tell : MI := (cX4_tell, 3, RX4, none, 2, 0, 0, "tell")
abbrev mi_X4_push : MI := (cX4_push, 2, RX4, none, 1, 0, 0, "push")
abbrev mi_X4_pop : MI := (cX4_pop, 1, RX4, some .int, 1, 0, 0, "pop")
abbrev mi_X4_join : MI := (cX4_join, 3, RX4, some .int, 1, 0, 0, "join")
abbrev mi_X4_take : MI := (cX4_take, 4, RX4, none, 2, 0, 0, "take")
abbrev mi_X4_rateBy : MI := (cX4_rateBy, 4, RX4, some .int, 3, 0, 0, "rateBy")
abbrev mi_X5_init : MI := (cX5_init, 1, RX5, none, 1, 1, 600, "<init>")
abbrev mi_X5_addSign : MI := (cX5_addSign, 3, RX5, none, 2, 0, 0, "addSign")
abbrev mi_X5_addBytes : MI := (cX5_addBytes, 4, RX5, none, 3, 0, 0, "addBytes")
abbrev mi_X5_signAt : MI := (cX5_signAt, 2, RX5, some .int, 1, 0, 0, "signAt")
abbrev mi_X5_clear : MI := (cX5_clear, 1, RX5, none, 1, 0, 0, "clear")
abbrev mi_X7_init : MI := (cX7_init, 1, RX7, none, 1, 2, 1202, "<init>")
abbrev mi_X6_init : MI := (cX6_init, 1, RX6, none, 2, 4, 1805, "<init>")
abbrev mi_X7_isDigit : MI := (cX7_isDigit, 1, RX7, some .boolean, 2, 0, 0, "isDigit")
abbrev mi_X7_add : MI := (cX7_add, 3, RX7, none, 1, 0, 0, "add")
abbrev mi_X7_addNumber : MI := (cX7_addNumber, 5, RX7, some .int, 3, 0, 0, "addNumber")
abbrev mi_X7_isLetter : MI := (cX7_isLetter, 1, RX7, some .boolean, 2, 0, 0, "isLetter")
abbrev mi_X7_spells : MI := (cX7_spells, 5, RX7, some .boolean, 5, 0, 0, "spells")
abbrev mi_X7_wordKind : MI := (cX7_wordKind, 3, RX7, some .int, 6, 0, 0, "wordKind")
abbrev mi_X7_addWord : MI := (cX7_addWord, 4, RX7, some .int, 7, 0, 0, "addWord")
abbrev mi_X7_signKind : MI := (cX7_signKind, 1, RX7, some .int, 1, 0, 0, "signKind")
abbrev mi_X7_scan : MI := (cX7_scan, 5, RX7, none, 8, 0, 0, "scan")
abbrev mi_X6_goOn : MI := (cX6_goOn, 2, RX6, none, 1, 0, 0, "goOn")
abbrev mi_X6_mark : MI := (cX6_mark, 3, RX6, none, 1, 0, 0, "mark")
abbrev mi_X6_take : MI := (cX6_take, 2, RX6, none, 2, 0, 0, "take")
abbrev mi_X6_takeRate : MI := (cX6_takeRate, 2, RX6, some .int, 2, 0, 0, "takeRate")
abbrev mi_X6_write : MI := (cX6_write, 2, RX6, none, 1, 0, 0, "write")
abbrev mi_X6_rateText : MI := (cX6_rateText, 2, RX6, some (.object "PanelHouse$RateText"), 2, 2, 602, "rateText")
abbrev mi_X8_init : MI := (cX8_init, 1, RX8, none, 4, 16, 2515, "<init>")
abbrev mi_X8_feature : MI := (cX8_feature, 8, RX8, some .int, 7, 3, 92, "feature")
abbrev mi_X8_isCirculation : MI := (cX8_isCirculation, 1, RX8, some .boolean, 2, 0, 0, "isCirculation")
abbrev mi_X8_paper : MI := (cX8_paper, 5, RX8, some .int, 7, 3, 135, "paper")
abbrev mi_X8_paperAt : MI := (cX8_paperAt, 2, RX8, some (.object "PanelHouse$Paper"), 4, 0, 0, "paperAt")
abbrev mi_X8_runningMonth : MI := (cX8_runningMonth, 1, RX8, some .int, 1, 0, 0, "runningMonth")
abbrev mi_X8_circulation : MI := (cX8_circulation, 4, RX8, some .boolean, 5, 0, 0, "circulation")
abbrev mi_X8_reckon : MI := (cX8_reckon, 9, RX8, some .int, 4, 0, 0, "reckon")
abbrev mi_X8_featureAt : MI := (cX8_featureAt, 2, RX8, some (.object "PanelHouse$Feature"), 4, 0, 0, "featureAt")
abbrev mi_X8_hasRunning : MI := (cX8_hasRunning, 5, RX8, some .boolean, 4, 0, 0, "hasRunning")
abbrev mi_X8_isBarred : MI := (cX8_isBarred, 6, RX8, some .boolean, 4, 0, 0, "isBarred")
abbrev mi_X8_sign : MI := (cX8_sign, 6, RX8, some .int, 7, 4, 341, "sign")
abbrev mi_X8_contractAt : MI := (cX8_contractAt, 2, RX8, some (.object "PanelHouse$Contract"), 4, 0, 0, "contractAt")
abbrev mi_X8_cancel : MI := (cX8_cancel, 3, RX8, some .int, 5, 0, 0, "cancel")
abbrev mi_X8_ill : MI := (cX8_ill, 4, RX8, some .boolean, 5, 0, 0, "ill")
abbrev mi_X8_stop : MI := (cX8_stop, 4, RX8, some .boolean, 5, 0, 0, "stop")
abbrev mi_X8_miss : MI := (cX8_miss, 3, RX8, some .boolean, 5, 0, 0, "miss")
abbrev mi_X8_send : MI := (cX8_send, 3, RX8, some .int, 5, 0, 0, "send")
abbrev mi_X8_endMonth : MI := (cX8_endMonth, 4, RX8, none, 5, 0, 0, "endMonth")
abbrev mi_X8_passWeek : MI := (cX8_passWeek, 3, RX8, none, 6, 0, 0, "passWeek")
abbrev mi_X8_weeks : MI := (cX8_weeks, 3, RX8, some .int, 7, 0, 0, "weeks")
abbrev mi_X8_feed : MI := (cX8_feed, 7, RX8, some .int, 4, 0, 0, "feed")
abbrev mi_X8_panel : MI := (cX8_panel, 3, RX8, some .int, 5, 0, 0, "panel")
abbrev mi_X8_share : MI := (cX8_share, 4, RX8, some .int, 6, 0, 0, "share")
abbrev mi_X8_sells : MI := (cX8_sells, 4, RX8, some .int, 5, 0, 0, "sells")
abbrev mi_X8_runningContracts : MI := (cX8_runningContracts, 3, RX8, some .int, 4, 0, 0, "runningContracts")
abbrev mi_X8_count : MI := (cX8_count, 2, RX8, some .int, 5, 0, 0, "count")
abbrev mi_X9_thrown : MI := (cX9_thrown, 1, RX9, some .int, 1, 0, 0, "thrown")
abbrev mi_X9_lay : MI := (cX9_lay, 5, RX9, none, 1, 0, 0, "lay")
abbrev mi_X9_feed : MI := (cX9_feed, 7, RX9, some .int, 2, 0, 0, "feed")
abbrev mi_X9_init : MI := (cX9_init, 1, RX9, none, 1, 41, 53480, "<init>")
abbrev mi_X9_isLetter : MI := (cX9_isLetter, 1, RX9, some .boolean, 1, 0, 0, "isLetter")
abbrev mi_X9_isDigit : MI := (cX9_isDigit, 1, RX9, some .boolean, 1, 0, 0, "isDigit")
abbrev mi_X9_rank : MI := (cX9_rank, 1, RX9, some .int, 2, 0, 0, "rank")
abbrev mi_X9_isSignOf : MI := (cX9_isSignOf, 1, RX9, some .boolean, 1, 0, 0, "isSignOf")
abbrev mi_X9_cutAll : MI := (cX9_cutAll, 7, RX9, none, 3, 0, 0, "cutAll")
abbrev mi_X9_wrong : MI := (cX9_wrong, 2, RX9, none, 1, 0, 0, "wrong")
abbrev mi_X9_isSign : MI := (cX9_isSign, 2, RX9, some .boolean, 1, 0, 0, "isSign")
abbrev mi_X9_isWord : MI := (cX9_isWord, 2, RX9, some .boolean, 1, 0, 0, "isWord")
abbrev mi_X9_takeSign : MI := (cX9_takeSign, 2, RX9, none, 2, 0, 0, "takeSign")
abbrev mi_X9_hasSign : MI := (cX9_hasSign, 3, RX9, some .boolean, 2, 0, 0, "hasSign")
abbrev mi_X9_hasWord : MI := (cX9_hasWord, 3, RX9, some .boolean, 2, 0, 0, "hasWord")
abbrev mi_X9_takeWord : MI := (cX9_takeWord, 2, RX9, none, 3, 0, 0, "takeWord")
abbrev mi_X9_emit : MI := (cX9_emit, 3, RX9, none, 1, 0, 0, "emit")
abbrev mi_X9_opens : MI := (cX9_opens, 1, RX9, none, 1, 0, 0, "opens")
abbrev mi_X9_partWord : MI := (cX9_partWord, 2, RX9, some .int, 2, 0, 0, "partWord")
abbrev mi_X9_part : MI := (cX9_part, 2, RX9, some .boolean, 3, 0, 0, "part")
abbrev mi_X9_goesOnBehind : MI := (cX9_goesOnBehind, 1, RX9, some .boolean, 3, 0, 0, "goesOnBehind")
abbrev mi_X9_line : MI := (cX9_line, 3, RX9, none, 4, 0, 0, "line")
abbrev mi_X9_keeps : MI := (cX9_keeps, 2, RX9, none, 1, 0, 0, "keeps")
abbrev mi_X9_text : MI := (cX9_text, 1, RX9, some .int, 5, 0, 0, "text")
abbrev mi_X9_worth : MI := (cX9_worth, 7, RX9, some .int, 1, 0, 0, "worth")
abbrev mi_X9_within : MI := (cX9_within, 3, RX9, some .boolean, 1, 0, 0, "within")
abbrev mi_X9_feature : MI := (cX9_feature, 6, RX9, some .int, 2, 0, 0, "feature")
abbrev mi_X9_paper : MI := (cX9_paper, 5, RX9, some .int, 2, 0, 0, "paper")
abbrev mi_X9_isFeature : MI := (cX9_isFeature, 2, RX9, some .boolean, 1, 0, 0, "isFeature")
abbrev mi_X9_isPaper : MI := (cX9_isPaper, 2, RX9, some .boolean, 1, 0, 0, "isPaper")
abbrev mi_X9_circulation : MI := (cX9_circulation, 3, RX9, some .boolean, 2, 0, 0, "circulation")
abbrev mi_X9_sells : MI := (cX9_sells, 3, RX9, some .int, 2, 0, 0, "sells")
abbrev mi_X9_ill : MI := (cX9_ill, 3, RX9, some .boolean, 2, 0, 0, "ill")
abbrev mi_X9_stop : MI := (cX9_stop, 3, RX9, some .boolean, 2, 0, 0, "stop")
abbrev mi_X9_panel : MI := (cX9_panel, 2, RX9, some .int, 2, 0, 0, "panel")
abbrev mi_X9_isContract : MI := (cX9_isContract, 2, RX9, some .boolean, 1, 0, 0, "isContract")
abbrev mi_X9_runsIn : MI := (cX9_runsIn, 3, RX9, some .boolean, 1, 0, 0, "runsIn")
abbrev mi_X9_why : MI := (cX9_why, 8, RX9, some .int, 2, 0, 0, "why")
abbrev mi_X9_sign : MI := (cX9_sign, 4, RX9, some .int, 3, 0, 0, "sign")
abbrev mi_X9_cancel : MI := (cX9_cancel, 2, RX9, some .int, 2, 0, 0, "cancel")
abbrev mi_X9_miss : MI := (cX9_miss, 2, RX9, some .boolean, 2, 0, 0, "miss")
abbrev mi_X9_isOfRun : MI := (cX9_isOfRun, 3, RX9, some .boolean, 2, 0, 0, "isOfRun")
abbrev mi_X9_missing : MI := (cX9_missing, 3, RX9, some .int, 3, 0, 0, "missing")
abbrev mi_X9_send : MI := (cX9_send, 3, RX9, some .int, 4, 0, 0, "send")
abbrev mi_X9_prints : MI := (cX9_prints, 5, RX9, none, 1, 0, 0, "prints")
abbrev mi_X9_runs : MI := (cX9_runs, 6, RX9, none, 2, 0, 0, "runs")
abbrev mi_X9_weeksIn : MI := (cX9_weeksIn, 5, RX9, some .int, 2, 0, 0, "weeksIn")
abbrev mi_X9_billOf : MI := (cX9_billOf, 7, RX9, some .int, 3, 0, 0, "billOf")
abbrev mi_X9_bill : MI := (cX9_bill, 4, RX9, some .int, 4, 0, 0, "bill")
abbrev mi_X9_bills : MI := (cX9_bills, 4, RX9, none, 5, 0, 0, "bills")
abbrev mi_X9_week : MI := (cX9_week, 2, RX9, none, 6, 0, 0, "week")
abbrev mi_X9_weeks : MI := (cX9_weeks, 3, RX9, some .int, 7, 0, 0, "weeks")
abbrev mi_X9_right : MI := (cX9_right, 6, RX9, some .int, 5, 0, 0, "right")
abbrev mi_X9_income : MI := (cX9_income, 2, RX9, some .int, 2, 0, 0, "income")
abbrev mi_X9_share : MI := (cX9_share, 9, RX9, some .int, 2, 0, 0, "share")
abbrev mi_X9_gap : MI := (cX9_gap, 6, RX9, some .int, 3, 0, 0, "gap")
abbrev mi_X9_look : MI := (cX9_look, 3, RX9, some .int, 4, 0, 0, "look")
abbrev mi_X9_count : MI := (cX9_count, 4, RX9, some .int, 2, 0, 0, "count")
theorem ob_X0_3 : Cond.methodLink RX0 3 Lib.objectInit ∈ TBL := (tbl_in 393 (by decide +kernel) (by decide +kernel))
theorem fl_X0_9 : LF RX0 9 1 3 := ⟨_, "PanelHouse$Contract", rfl, by decide, Or.inl rfl, Or.inl (tbl_in 400 (by decide +kernel) (by decide +kernel))⟩
theorem fw_X0_9 (nm : String) : FW RX0 nm 9 1 3 := fun r hr => by cases hr; exact Or.inl rfl
theorem fl_X0_15 : LF RX0 15 1 4 := ⟨_, "PanelHouse$Contract", rfl, by decide, Or.inl rfl, Or.inl (tbl_in 402 (by decide +kernel) (by decide +kernel))⟩
theorem fw_X0_15 (nm : String) : FW RX0 nm 15 1 4 := fun r hr => by cases hr; exact Or.inl rfl
theorem fl_X0_18 : LF RX0 18 1 5 := ⟨_, "PanelHouse$Contract", rfl, by decide, Or.inl rfl, Or.inl (tbl_in 404 (by decide +kernel) (by decide +kernel))⟩
theorem fw_X0_18 (nm : String) : FW RX0 nm 18 1 5 := fun r hr => by cases hr; exact Or.inl rfl
theorem fl_X0_21 : LF RX0 21 1 6 := ⟨_, "PanelHouse$Contract", rfl, by decide, Or.inl rfl, Or.inl (tbl_in 405 (by decide +kernel) (by decide +kernel))⟩
theorem fw_X0_21 (nm : String) : FW RX0 nm 21 1 6 := fun r hr => by cases hr; exact Or.inl rfl
theorem fl_X0_24 : LF RX0 24 1 7 := ⟨_, "PanelHouse$Contract", rfl, by decide, Or.inl rfl, Or.inl (tbl_in 406 (by decide +kernel) (by decide +kernel))⟩
theorem fw_X0_24 (nm : String) : FW RX0 nm 24 1 7 := fun r hr => by cases hr; exact Or.inl rfl
theorem fl_X0_27 : LF RX0 27 1 8 := ⟨_, "PanelHouse$Contract", rfl, by decide, Or.inl rfl, Or.inl (tbl_in 408 (by decide +kernel) (by decide +kernel))⟩
theorem fw_X0_27 (nm : String) : FW RX0 nm 27 1 8 := fun r hr => by cases hr; exact Or.inl rfl
theorem ac_202 : Cond.arrayClass (tyK 202) ∈ TBL := (tbl_in 435 (by decide +kernel) (by decide +kernel))
theorem fl_X0_30 : LF RX0 30 1 9 := ⟨_, "PanelHouse$Contract", rfl, by decide, Or.inl rfl, Or.inl (tbl_in 410 (by decide +kernel) (by decide +kernel))⟩
theorem fwi_X0_30 : FW RX0 "<init>" 30 1 9 := fun r hr => by cases hr; exact Or.inr ⟨rfl, rfl, rfl, (tbl_in 410 (by decide +kernel) (by decide +kernel))⟩
theorem ac_201 : Cond.arrayClass (tyK 201) ∈ TBL := (tbl_in 102 (by decide +kernel) (by decide +kernel))
theorem fl_X0_34 : LF RX0 34 1 10 := ⟨_, "PanelHouse$Contract", rfl, by decide, Or.inl rfl, Or.inl (tbl_in 411 (by decide +kernel) (by decide +kernel))⟩
theorem fwi_X0_34 : FW RX0 "<init>" 34 1 10 := fun r hr => by cases hr; exact Or.inr ⟨rfl, rfl, rfl, (tbl_in 411 (by decide +kernel) (by decide +kernel))⟩
theorem fl_X0_38 : LF RX0 38 1 0 := ⟨_, "PanelHouse$Contract", rfl, by decide, Or.inl rfl, Or.inl (tbl_in 394 (by decide +kernel) (by decide +kernel))⟩
theorem fwi_X0_38 : FW RX0 "<init>" 38 1 0 := fun r hr => by cases hr; exact Or.inr ⟨rfl, rfl, rfl, (tbl_in 394 (by decide +kernel) (by decide +kernel))⟩
theorem fl_X0_42 : LF RX0 42 1 1 := ⟨_, "PanelHouse$Contract", rfl, by decide, Or.inl rfl, Or.inl (tbl_in 396 (by decide +kernel) (by decide +kernel))⟩
theorem fwi_X0_42 : FW RX0 "<init>" 42 1 1 := fun r hr => by cases hr; exact Or.inr ⟨rfl, rfl, rfl, (tbl_in 396 (by decide +kernel) (by decide +kernel))⟩
theorem fl_X0_46 : LF RX0 46 1 2 := ⟨_, "PanelHouse$Contract", rfl, by decide, Or.inl rfl, Or.inl (tbl_in 398 (by decide +kernel) (by decide +kernel))⟩
theorem fwi_X0_46 : FW RX0 "<init>" 46 1 2 := fun r hr => by cases hr; exact Or.inr ⟨rfl, rfl, rfl, (tbl_in 398 (by decide +kernel) (by decide +kernel))⟩
theorem mc_X0_runsIn : MC yX0_runsIn mi_X0_runsIn 1 := ⟨(tbl_in 381 (by decide +kernel) (by decide +kernel)), (tbl_in 23 (by decide +kernel) (by decide +kernel)), ⟨by decide +kernel, by decide +kernel⟩, by decide +kernel⟩
theorem im_X0_runsIn : Cond.instanceMethod yX0_runsIn ∈ TBL := (tbl_in 379 (by decide +kernel) (by decide +kernel))
theorem se_X0_runsIn : Cond.selects RX0 yX0_runsIn yX0_runsIn ∈ TBL := sel_in (q := (yX0_runsIn, 11)) 8 (by decide +kernel) (by decide +kernel)
theorem ml_X0_49 : ML RX0 49 yX0_runsIn := Or.inl (tbl_in 507 (by decide +kernel) (by decide +kernel))
theorem fl_X0_53 : LF RX0 53 2 7 := ⟨_, "PanelHouse$Feature", rfl, by decide, Or.inl rfl, Or.inr ⟨"PanelHouse", (nst_in 220 (by decide +kernel) (by decide +kernel))⟩⟩
theorem fl_X0_59 : LF RX0 59 2 6 := ⟨_, "PanelHouse$Feature", rfl, by decide, Or.inl rfl, Or.inr ⟨"PanelHouse", (nst_in 217 (by decide +kernel) (by decide +kernel))⟩⟩
theorem mc_X0_isThere : MC yX0_isThere mi_X0_isThere 1 := ⟨(tbl_in 488 (by decide +kernel) (by decide +kernel)), (tbl_in 23 (by decide +kernel) (by decide +kernel)), ⟨by decide +kernel, by decide +kernel⟩, by decide +kernel⟩
theorem im_X0_isThere : Cond.instanceMethod yX0_isThere ∈ TBL := (tbl_in 487 (by decide +kernel) (by decide +kernel))
theorem se_X0_isThere : Cond.selects RX0 yX0_isThere yX0_isThere ∈ TBL := sel_in (q := (yX0_isThere, 11)) 17 (by decide +kernel) (by decide +kernel)
theorem ml_X0_62 : ML RX0 62 yX0_isThere := Or.inl (tbl_in 485 (by decide +kernel) (by decide +kernel))
theorem mc_X8_isWithin : MC yX8_isWithin mi_X8_isWithin 3 := ⟨(tbl_in 194 (by decide +kernel) (by decide +kernel)), (tbl_in 1 (by decide +kernel) (by decide +kernel)), ⟨by decide +kernel, by decide +kernel⟩, by decide +kernel⟩
theorem st_X8_isWithin : Cond.static yX8_isWithin ∈ TBL := (tbl_in 193 (by decide +kernel) (by decide +kernel))
theorem ml_X0_65 : ML RX0 65 yX8_isWithin := Or.inr ⟨"PanelHouse", (nst_in 489 (by decide +kernel) (by decide +kernel))⟩
theorem mm_X0_69 : Cond.methodLink RX0 69 Lib.Math.max.name ∈ TBL := (tbl_in 464 (by decide +kernel) (by decide +kernel))
theorem fl_X0_75 : LF RX0 75 2 8 := ⟨_, "PanelHouse$Feature", rfl, by decide, Or.inl rfl, Or.inr ⟨"PanelHouse", (nst_in 222 (by decide +kernel) (by decide +kernel))⟩⟩
theorem fw_X0_75 (nm : String) : FW RX0 nm 75 2 8 := fun r hr => by cases hr; exact Or.inl rfl
theorem ob_X1_3 : Cond.methodLink RX1 3 Lib.objectInit ∈ TBL := (tbl_in 204 (by decide +kernel) (by decide +kernel))
theorem fl_X1_9 : LF RX1 9 2 3 := ⟨_, "PanelHouse$Feature", rfl, by decide, Or.inl rfl, Or.inl (tbl_in 211 (by decide +kernel) (by decide +kernel))⟩
theorem fwi_X1_9 : FW RX1 "<init>" 9 2 3 := fun r hr => by cases hr; exact Or.inr ⟨rfl, rfl, rfl, (tbl_in 211 (by decide +kernel) (by decide +kernel))⟩
theorem fl_X1_15 : LF RX1 15 2 4 := ⟨_, "PanelHouse$Feature", rfl, by decide, Or.inl rfl, Or.inl (tbl_in 212 (by decide +kernel) (by decide +kernel))⟩
theorem fw_X1_15 (nm : String) : FW RX1 nm 15 2 4 := fun r hr => by cases hr; exact Or.inl rfl
theorem fl_X1_19 : LF RX1 19 2 5 := ⟨_, "PanelHouse$Feature", rfl, by decide, Or.inl rfl, Or.inl (tbl_in 214 (by decide +kernel) (by decide +kernel))⟩
theorem fw_X1_19 (nm : String) : FW RX1 nm 19 2 5 := fun r hr => by cases hr; exact Or.inl rfl
theorem fl_X1_23 : LF RX1 23 2 6 := ⟨_, "PanelHouse$Feature", rfl, by decide, Or.inl rfl, Or.inl (tbl_in 216 (by decide +kernel) (by decide +kernel))⟩
theorem fw_X1_23 (nm : String) : FW RX1 nm 23 2 6 := fun r hr => by cases hr; exact Or.inl rfl
theorem fl_X1_26 : LF RX1 26 2 7 := ⟨_, "PanelHouse$Feature", rfl, by decide, Or.inl rfl, Or.inl (tbl_in 219 (by decide +kernel) (by decide +kernel))⟩
theorem fw_X1_26 (nm : String) : FW RX1 nm 26 2 7 := fun r hr => by cases hr; exact Or.inl rfl
theorem fl_X1_29 : LF RX1 29 2 8 := ⟨_, "PanelHouse$Feature", rfl, by decide, Or.inl rfl, Or.inl (tbl_in 221 (by decide +kernel) (by decide +kernel))⟩
theorem fw_X1_29 (nm : String) : FW RX1 nm 29 2 8 := fun r hr => by cases hr; exact Or.inl rfl
theorem fl_X1_32 : LF RX1 32 2 0 := ⟨_, "PanelHouse$Feature", rfl, by decide, Or.inl rfl, Or.inl (tbl_in 205 (by decide +kernel) (by decide +kernel))⟩
theorem fwi_X1_32 : FW RX1 "<init>" 32 2 0 := fun r hr => by cases hr; exact Or.inr ⟨rfl, rfl, rfl, (tbl_in 205 (by decide +kernel) (by decide +kernel))⟩
theorem fl_X1_35 : LF RX1 35 2 1 := ⟨_, "PanelHouse$Feature", rfl, by decide, Or.inl rfl, Or.inl (tbl_in 207 (by decide +kernel) (by decide +kernel))⟩
theorem fwi_X1_35 : FW RX1 "<init>" 35 2 1 := fun r hr => by cases hr; exact Or.inr ⟨rfl, rfl, rfl, (tbl_in 207 (by decide +kernel) (by decide +kernel))⟩
theorem fl_X1_38 : LF RX1 38 2 2 := ⟨_, "PanelHouse$Feature", rfl, by decide, Or.inl rfl, Or.inl (tbl_in 209 (by decide +kernel) (by decide +kernel))⟩
theorem fwi_X1_38 : FW RX1 "<init>" 38 2 2 := fun r hr => by cases hr; exact Or.inr ⟨rfl, rfl, rfl, (tbl_in 209 (by decide +kernel) (by decide +kernel))⟩
theorem ml_X1_59 : ML RX1 59 yX8_isWithin := Or.inr ⟨"PanelHouse", (nst_in 739 (by decide +kernel) (by decide +kernel))⟩
theorem mc_X1_allShares : MC yX1_allShares mi_X1_allShares 0 := ⟨(tbl_in 734 (by decide +kernel) (by decide +kernel)), (tbl_in 11 (by decide +kernel) (by decide +kernel)), ⟨by decide +kernel, by decide +kernel⟩, by decide +kernel⟩
theorem im_X1_allShares : Cond.instanceMethod yX1_allShares ∈ TBL := (tbl_in 733 (by decide +kernel) (by decide +kernel))
theorem se_X1_allShares : Cond.selects RX1 yX1_allShares yX1_allShares ∈ TBL := sel_in (q := (yX1_allShares, 9)) 51 (by decide +kernel) (by decide +kernel)
theorem ml_X1_49 : ML RX1 49 yX1_allShares := Or.inl (tbl_in 731 (by decide +kernel) (by decide +kernel))
theorem mc_X1_shareOf : MC yX1_shareOf mi_X1_shareOf 1 := ⟨(tbl_in 738 (by decide +kernel) (by decide +kernel)), (tbl_in 11 (by decide +kernel) (by decide +kernel)), ⟨by decide +kernel, by decide +kernel⟩, by decide +kernel⟩
theorem im_X1_shareOf : Cond.instanceMethod yX1_shareOf ∈ TBL := (tbl_in 737 (by decide +kernel) (by decide +kernel))
theorem se_X1_shareOf : Cond.selects RX1 yX1_shareOf yX1_shareOf ∈ TBL := sel_in (q := (yX1_shareOf, 9)) 52 (by decide +kernel) (by decide +kernel)
theorem ml_X1_53 : ML RX1 53 yX1_shareOf := Or.inl (tbl_in 735 (by decide +kernel) (by decide +kernel))
theorem mc_X1_restOf : MC yX1_restOf mi_X1_restOf 1 := ⟨(tbl_in 747 (by decide +kernel) (by decide +kernel)), (tbl_in 11 (by decide +kernel) (by decide +kernel)), ⟨by decide +kernel, by decide +kernel⟩, by decide +kernel⟩
theorem im_X1_restOf : Cond.instanceMethod yX1_restOf ∈ TBL := (tbl_in 746 (by decide +kernel) (by decide +kernel))
theorem se_X1_restOf : Cond.selects RX1 yX1_restOf yX1_restOf ∈ TBL := sel_in (q := (yX1_restOf, 9)) 54 (by decide +kernel) (by decide +kernel)
theorem ml_X1_56 : ML RX1 56 yX1_restOf := Or.inl (tbl_in 744 (by decide +kernel) (by decide +kernel))
theorem mc_X1_cutOf : MC yX1_cutOf mi_X1_cutOf 1 := ⟨(tbl_in 730 (by decide +kernel) (by decide +kernel)), (tbl_in 11 (by decide +kernel) (by decide +kernel)), ⟨by decide +kernel, by decide +kernel⟩, by decide +kernel⟩
theorem im_X1_cutOf : Cond.instanceMethod yX1_cutOf ∈ TBL := (tbl_in 729 (by decide +kernel) (by decide +kernel))
theorem se_X1_cutOf : Cond.selects RX1 yX1_cutOf yX1_cutOf ∈ TBL := sel_in (q := (yX1_cutOf, 9)) 50 (by decide +kernel) (by decide +kernel)
theorem ml_X1_41 : ML RX1 41 yX1_cutOf := Or.inl (tbl_in 727 (by decide +kernel) (by decide +kernel))
theorem mc_X1_placeByRest : MC yX1_placeByRest mi_X1_placeByRest 1 := ⟨(tbl_in 743 (by decide +kernel) (by decide +kernel)), (tbl_in 11 (by decide +kernel) (by decide +kernel)), ⟨by decide +kernel, by decide +kernel⟩, by decide +kernel⟩
theorem im_X1_placeByRest : Cond.instanceMethod yX1_placeByRest ∈ TBL := (tbl_in 742 (by decide +kernel) (by decide +kernel))
theorem se_X1_placeByRest : Cond.selects RX1 yX1_placeByRest yX1_placeByRest ∈ TBL := sel_in (q := (yX1_placeByRest, 9)) 53 (by decide +kernel) (by decide +kernel)
theorem ml_X1_45 : ML RX1 45 yX1_placeByRest := Or.inl (tbl_in 740 (by decide +kernel) (by decide +kernel))
theorem ob_X2_3 : Cond.methodLink RX2 3 Lib.objectInit ∈ TBL := (tbl_in 315 (by decide +kernel) (by decide +kernel))
theorem fl_X2_9 : LF RX2 9 3 3 := ⟨_, "PanelHouse$Paper", rfl, by decide, Or.inl rfl, Or.inl (tbl_in 323 (by decide +kernel) (by decide +kernel))⟩
theorem fwi_X2_9 : FW RX2 "<init>" 9 3 3 := fun r hr => by cases hr; exact Or.inr ⟨rfl, rfl, rfl, (tbl_in 323 (by decide +kernel) (by decide +kernel))⟩
theorem fl_X2_15 : LF RX2 15 3 0 := ⟨_, "PanelHouse$Paper", rfl, by decide, Or.inl rfl, Or.inl (tbl_in 319 (by decide +kernel) (by decide +kernel))⟩
theorem fwi_X2_15 : FW RX2 "<init>" 15 3 0 := fun r hr => by cases hr; exact Or.inr ⟨rfl, rfl, rfl, (tbl_in 319 (by decide +kernel) (by decide +kernel))⟩
theorem fl_X2_19 : LF RX2 19 3 1 := ⟨_, "PanelHouse$Paper", rfl, by decide, Or.inl rfl, Or.inl (tbl_in 321 (by decide +kernel) (by decide +kernel))⟩
theorem fwi_X2_19 : FW RX2 "<init>" 19 3 1 := fun r hr => by cases hr; exact Or.inr ⟨rfl, rfl, rfl, (tbl_in 321 (by decide +kernel) (by decide +kernel))⟩
theorem fl_X2_22 : LF RX2 22 3 2 := ⟨_, "PanelHouse$Paper", rfl, by decide, Or.inl rfl, Or.inl (tbl_in 322 (by decide +kernel) (by decide +kernel))⟩
theorem fwi_X2_22 : FW RX2 "<init>" 22 3 2 := fun r hr => by cases hr; exact Or.inr ⟨rfl, rfl, rfl, (tbl_in 322 (by decide +kernel) (by decide +kernel))⟩
theorem mc_J7_fill_53178 : MC yJ7_fill_53178 mi_J7_fill_53178 2 := ⟨(tbl_in 318 (by decide +kernel) (by decide +kernel)), (tbl_in 14 (by decide +kernel) (by decide +kernel)), ⟨by decide +kernel, by decide +kernel⟩, by decide +kernel⟩
theorem st_J7_fill_53178 : Cond.static yJ7_fill_53178 ∈ TBL := (tbl_in 317 (by decide +kernel) (by decide +kernel))
theorem ml_X2_25 : ML RX2 25 yJ7_fill_53178 := Or.inl (tbl_in 316 (by decide +kernel) (by decide +kernel))
theorem mm_X2_31 : Cond.methodLink RX2 31 Lib.Math.max.name ∈ TBL := (tbl_in 363 (by decide +kernel) (by decide +kernel))
theorem ml_X2_37 : ML RX2 37 yX8_isWithin := Or.inr ⟨"PanelHouse", (nst_in 498 (by decide +kernel) (by decide +kernel))⟩
theorem ob_X3_1 : Cond.methodLink RX3 1 Lib.objectInit ∈ TBL := (tbl_in 147 (by decide +kernel) (by decide +kernel))
theorem fl_X3_7 : LF RX3 7 4 0 := ⟨_, "PanelHouse$RateText", rfl, by decide, Or.inl rfl, Or.inl (tbl_in 148 (by decide +kernel) (by decide +kernel))⟩
theorem fwi_X3_7 : FW RX3 "<init>" 7 4 0 := fun r hr => by cases hr; exact Or.inr ⟨rfl, rfl, rfl, (tbl_in 148 (by decide +kernel) (by decide +kernel))⟩
theorem fl_X3_13 : LF RX3 13 4 1 := ⟨_, "PanelHouse$RateText", rfl, by decide, Or.inl rfl, Or.inl (tbl_in 150 (by decide +kernel) (by decide +kernel))⟩
theorem fwi_X3_13 : FW RX3 "<init>" 13 4 1 := fun r hr => by cases hr; exact Or.inr ⟨rfl, rfl, rfl, (tbl_in 150 (by decide +kernel) (by decide +kernel))⟩
theorem ob_X4_3 : Cond.methodLink RX4 3 Lib.objectInit ∈ TBL := (tbl_in 130 (by decide +kernel) (by decide +kernel))
theorem fl_X4_9 : LF RX4 9 5 0 := ⟨_, "PanelHouse$Reckoner", rfl, by decide, Or.inl rfl, Or.inl (tbl_in 131 (by decide +kernel) (by decide +kernel))⟩
theorem fwi_X4_9 : FW RX4 "<init>" 9 5 0 := fun r hr => by cases hr; exact Or.inr ⟨rfl, rfl, rfl, (tbl_in 131 (by decide +kernel) (by decide +kernel))⟩
theorem fl_X4_15 : LF RX4 15 5 1 := ⟨_, "PanelHouse$Reckoner", rfl, by decide, Or.inl rfl, Or.inl (tbl_in 132 (by decide +kernel) (by decide +kernel))⟩
theorem fwi_X4_15 : FW RX4 "<init>" 15 5 1 := fun r hr => by cases hr; exact Or.inr ⟨rfl, rfl, rfl, (tbl_in 132 (by decide +kernel) (by decide +kernel))⟩
theorem fl_X4_18 : LF RX4 18 5 2 := ⟨_, "PanelHouse$Reckoner", rfl, by decide, Or.inl rfl, Or.inl (tbl_in 133 (by decide +kernel) (by decide +kernel))⟩
theorem fw_X4_18 (nm : String) : FW RX4 nm 18 5 2 := fun r hr => by cases hr; exact Or.inl rfl
theorem ml_X4_22 : ML RX4 22 yX8_isWithin := Or.inr ⟨"PanelHouse", (nst_in 516 (by decide +kernel) (by decide +kernel))⟩
theorem mc_X4_pop : MC yX4_pop mi_X4_pop 0 := ⟨(tbl_in 532 (by decide +kernel) (by decide +kernel)), (tbl_in 8 (by decide +kernel) (by decide +kernel)), ⟨by decide +kernel, by decide +kernel⟩, by decide +kernel⟩
theorem im_X4_pop : Cond.instanceMethod yX4_pop ∈ TBL := (tbl_in 531 (by decide +kernel) (by decide +kernel))
theorem se_X4_pop : Cond.selects RX4 yX4_pop yX4_pop ∈ TBL := sel_in (q := (yX4_pop, 3)) 27 (by decide +kernel) (by decide +kernel)
theorem ml_X4_35 : ML RX4 35 yX4_pop := Or.inl (tbl_in 529 (by decide +kernel) (by decide +kernel))
theorem mc_X4_join : MC yX4_join mi_X4_join 3 := ⟨(tbl_in 535 (by decide +kernel) (by decide +kernel)), (tbl_in 8 (by decide +kernel) (by decide +kernel)), ⟨by decide +kernel, by decide +kernel⟩, by decide +kernel⟩
theorem st_X4_join : Cond.static yX4_join ∈ TBL := (tbl_in 534 (by decide +kernel) (by decide +kernel))
theorem ml_X4_42 : ML RX4 42 yX4_join := Or.inl (tbl_in 533 (by decide +kernel) (by decide +kernel))
theorem mc_X4_push : MC yX4_push mi_X4_push 1 := ⟨(tbl_in 528 (by decide +kernel) (by decide +kernel)), (tbl_in 8 (by decide +kernel) (by decide +kernel)), ⟨by decide +kernel, by decide +kernel⟩, by decide +kernel⟩
theorem im_X4_push : Cond.instanceMethod yX4_push ∈ TBL := (tbl_in 527 (by decide +kernel) (by decide +kernel))
theorem se_X4_push : Cond.selects RX4 yX4_push yX4_push ∈ TBL := sel_in (q := (yX4_push, 3)) 26 (by decide +kernel) (by decide +kernel)
theorem ml_X4_39 : ML RX4 39 yX4_push := Or.inl (tbl_in 525 (by decide +kernel) (by decide +kernel))
theorem fl_X4_26 : LF RX4 26 4 0 := ⟨_, "PanelHouse$RateText", rfl, by decide, Or.inl rfl, Or.inr ⟨"PanelHouse", (nst_in 149 (by decide +kernel) (by decide +kernel))⟩⟩
theorem mc_X4_take : MC yX4_take mi_X4_take 1 := ⟨(tbl_in 524 (by decide +kernel) (by decide +kernel)), (tbl_in 8 (by decide +kernel) (by decide +kernel)), ⟨by decide +kernel, by decide +kernel⟩, by decide +kernel⟩
theorem im_X4_take : Cond.instanceMethod yX4_take ∈ TBL := (tbl_in 523 (by decide +kernel) (by decide +kernel))
theorem se_X4_take : Cond.selects RX4 yX4_take yX4_take ∈ TBL := sel_in (q := (yX4_take, 3)) 25 (by decide +kernel) (by decide +kernel)
theorem ml_X4_31 : ML RX4 31 yX4_take := Or.inl (tbl_in 521 (by decide +kernel) (by decide +kernel))
theorem ob_X5_3 : Cond.methodLink RX5 3 Lib.objectInit ∈ TBL := (tbl_in 66 (by decide +kernel) (by decide +kernel))
theorem ac_203 : Cond.arrayClass (tyK 203) ∈ TBL := (tbl_in 76 (by decide +kernel) (by decide +kernel))
theorem fl_X5_9 : LF RX5 9 6 0 := ⟨_, "PanelHouse$Tape", rfl, by decide, Or.inl rfl, Or.inl (tbl_in 67 (by decide +kernel) (by decide +kernel))⟩
theorem fwi_X5_9 : FW RX5 "<init>" 9 6 0 := fun r hr => by cases hr; exact Or.inr ⟨rfl, rfl, rfl, (tbl_in 67 (by decide +kernel) (by decide +kernel))⟩
theorem fl_X5_15 : LF RX5 15 6 1 := ⟨_, "PanelHouse$Tape", rfl, by decide, Or.inl rfl, Or.inl (tbl_in 68 (by decide +kernel) (by decide +kernel))⟩
theorem fw_X5_15 (nm : String) : FW RX5 nm 15 6 1 := fun r hr => by cases hr; exact Or.inl rfl
theorem ml_X5_23 : ML RX5 23 yX8_isWithin := Or.inr ⟨"PanelHouse", (nst_in 553 (by decide +kernel) (by decide +kernel))⟩
theorem mc_X5_addSign : MC yX5_addSign mi_X5_addSign 1 := ⟨(tbl_in 552 (by decide +kernel) (by decide +kernel)), (tbl_in 5 (by decide +kernel) (by decide +kernel)), ⟨by decide +kernel, by decide +kernel⟩, by decide +kernel⟩
theorem im_X5_addSign : Cond.instanceMethod yX5_addSign ∈ TBL := (tbl_in 551 (by decide +kernel) (by decide +kernel))
theorem se_X5_addSign : Cond.selects RX5 yX5_addSign yX5_addSign ∈ TBL := sel_in (q := (yX5_addSign, 2)) 30 (by decide +kernel) (by decide +kernel)
theorem ml_X5_19 : ML RX5 19 yX5_addSign := Or.inl (tbl_in 549 (by decide +kernel) (by decide +kernel))
theorem ob_X7_3 : Cond.methodLink RX7 3 Lib.objectInit ∈ TBL := (tbl_in 88 (by decide +kernel) (by decide +kernel))
theorem fl_X7_9 : LF RX7 9 8 0 := ⟨_, "PanelHouse$Tokens", rfl, by decide, Or.inl rfl, Or.inl (tbl_in 89 (by decide +kernel) (by decide +kernel))⟩
theorem fwi_X7_9 : FW RX7 "<init>" 9 8 0 := fun r hr => by cases hr; exact Or.inr ⟨rfl, rfl, rfl, (tbl_in 89 (by decide +kernel) (by decide +kernel))⟩
theorem fl_X7_15 : LF RX7 15 8 1 := ⟨_, "PanelHouse$Tokens", rfl, by decide, Or.inl rfl, Or.inl (tbl_in 91 (by decide +kernel) (by decide +kernel))⟩
theorem fwi_X7_15 : FW RX7 "<init>" 15 8 1 := fun r hr => by cases hr; exact Or.inr ⟨rfl, rfl, rfl, (tbl_in 91 (by decide +kernel) (by decide +kernel))⟩
theorem fl_X7_18 : LF RX7 18 8 2 := ⟨_, "PanelHouse$Tokens", rfl, by decide, Or.inl rfl, Or.inl (tbl_in 93 (by decide +kernel) (by decide +kernel))⟩
theorem fw_X7_18 (nm : String) : FW RX7 nm 18 8 2 := fun r hr => by cases hr; exact Or.inl rfl
theorem ob_X6_3 : Cond.methodLink RX6 3 Lib.objectInit ∈ TBL := (tbl_in 82 (by decide +kernel) (by decide +kernel))
theorem ln_X6_9 : LN RX6 9 8 3 := ⟨_, rfl, rfl, (tbl_in 83 (by decide +kernel) (by decide +kernel)), (tbl_in 84 (by decide +kernel) (by decide +kernel)), (tbl_in 7 (by decide +kernel) (by decide +kernel))⟩
theorem mc_X7_init : MC yX7_init mi_X7_init 0 := ⟨(tbl_in 87 (by decide +kernel) (by decide +kernel)), (tbl_in 7 (by decide +kernel) (by decide +kernel)), ⟨by decide +kernel, by decide +kernel⟩, by decide +kernel⟩
theorem im_X7_init : Cond.instanceMethod yX7_init ∈ TBL := (tbl_in 86 (by decide +kernel) (by decide +kernel))
theorem ml_X6_11 : ML RX6 11 yX7_init := Or.inr ⟨"PanelHouse", (nst_in 85 (by decide +kernel) (by decide +kernel))⟩
theorem fl_X6_12 : LF RX6 12 7 0 := ⟨_, "PanelHouse$TextReader", rfl, by decide, Or.inl rfl, Or.inl (tbl_in 103 (by decide +kernel) (by decide +kernel))⟩
theorem fwi_X6_12 : FW RX6 "<init>" 12 7 0 := fun r hr => by cases hr; exact Or.inr ⟨rfl, rfl, rfl, (tbl_in 103 (by decide +kernel) (by decide +kernel))⟩
theorem fl_X6_18 : LF RX6 18 7 1 := ⟨_, "PanelHouse$TextReader", rfl, by decide, Or.inl rfl, Or.inl (tbl_in 104 (by decide +kernel) (by decide +kernel))⟩
theorem fwi_X6_18 : FW RX6 "<init>" 18 7 1 := fun r hr => by cases hr; exact Or.inr ⟨rfl, rfl, rfl, (tbl_in 104 (by decide +kernel) (by decide +kernel))⟩
theorem fl_X6_22 : LF RX6 22 7 2 := ⟨_, "PanelHouse$TextReader", rfl, by decide, Or.inl rfl, Or.inl (tbl_in 105 (by decide +kernel) (by decide +kernel))⟩
theorem fw_X6_22 (nm : String) : FW RX6 nm 22 7 2 := fun r hr => by cases hr; exact Or.inl rfl
theorem fl_X6_26 : LF RX6 26 7 3 := ⟨_, "PanelHouse$TextReader", rfl, by decide, Or.inl rfl, Or.inl (tbl_in 106 (by decide +kernel) (by decide +kernel))⟩
theorem fw_X6_26 (nm : String) : FW RX6 nm 26 7 3 := fun r hr => by cases hr; exact Or.inl rfl
theorem fl_X6_29 : LF RX6 29 7 4 := ⟨_, "PanelHouse$TextReader", rfl, by decide, Or.inl rfl, Or.inl (tbl_in 107 (by decide +kernel) (by decide +kernel))⟩
theorem fw_X6_29 (nm : String) : FW RX6 nm 29 7 4 := fun r hr => by cases hr; exact Or.inl rfl
theorem fl_X6_32 : LF RX6 32 7 5 := ⟨_, "PanelHouse$TextReader", rfl, by decide, Or.inl rfl, Or.inl (tbl_in 108 (by decide +kernel) (by decide +kernel))⟩
theorem fw_X6_32 (nm : String) : FW RX6 nm 32 7 5 := fun r hr => by cases hr; exact Or.inl rfl
theorem fl_X6_35 : LF RX6 35 7 6 := ⟨_, "PanelHouse$TextReader", rfl, by decide, Or.inl rfl, Or.inl (tbl_in 109 (by decide +kernel) (by decide +kernel))⟩
theorem fw_X6_35 (nm : String) : FW RX6 nm 35 7 6 := fun r hr => by cases hr; exact Or.inl rfl
theorem ml_X7_56 : ML RX7 56 yX8_isWithin := Or.inr ⟨"PanelHouse", (nst_in 577 (by decide +kernel) (by decide +kernel))⟩
theorem fl_X7_22 : LF RX7 22 6 1 := ⟨_, "PanelHouse$Tape", rfl, by decide, Or.inl rfl, Or.inr ⟨"PanelHouse", (nst_in 69 (by decide +kernel) (by decide +kernel))⟩⟩
theorem mc_X5_signAt : MC yX5_signAt mi_X5_signAt 1 := ⟨(tbl_in 573 (by decide +kernel) (by decide +kernel)), (tbl_in 5 (by decide +kernel) (by decide +kernel)), ⟨by decide +kernel, by decide +kernel⟩, by decide +kernel⟩
theorem im_X5_signAt : Cond.instanceMethod yX5_signAt ∈ TBL := (tbl_in 572 (by decide +kernel) (by decide +kernel))
theorem se_X5_signAt : Cond.selects RX5 yX5_signAt yX5_signAt ∈ TBL := sel_in (q := (yX5_signAt, 2)) 34 (by decide +kernel) (by decide +kernel)
theorem ml_X7_27 : ML RX7 27 yX5_signAt := Or.inr ⟨"PanelHouse", (nst_in 570 (by decide +kernel) (by decide +kernel))⟩
theorem mc_X7_isDigit : MC yX7_isDigit mi_X7_isDigit 1 := ⟨(tbl_in 576 (by decide +kernel) (by decide +kernel)), (tbl_in 7 (by decide +kernel) (by decide +kernel)), ⟨by decide +kernel, by decide +kernel⟩, by decide +kernel⟩
theorem st_X7_isDigit : Cond.static yX7_isDigit ∈ TBL := (tbl_in 575 (by decide +kernel) (by decide +kernel))
theorem ml_X7_31 : ML RX7 31 yX7_isDigit := Or.inl (tbl_in 574 (by decide +kernel) (by decide +kernel))
theorem mc_X7_add : MC yX7_add mi_X7_add 2 := ⟨(tbl_in 585 (by decide +kernel) (by decide +kernel)), (tbl_in 7 (by decide +kernel) (by decide +kernel)), ⟨by decide +kernel, by decide +kernel⟩, by decide +kernel⟩
theorem im_X7_add : Cond.instanceMethod yX7_add ∈ TBL := (tbl_in 584 (by decide +kernel) (by decide +kernel))
theorem se_X7_add : Cond.selects RX7 yX7_add yX7_add ∈ TBL := sel_in (q := (yX7_add, 3)) 36 (by decide +kernel) (by decide +kernel)
theorem ml_X7_48 : ML RX7 48 yX7_add := Or.inl (tbl_in 582 (by decide +kernel) (by decide +kernel))
theorem gs_J0_38 : Cond.fieldLink RJ0 38 "java/lang/String" "COMPACT_STRINGS" "Z" ∈ TBL := (tbl_in 608 (by decide +kernel) (by decide +kernel))
theorem gf_J0_15 : Cond.fieldLink RJ0 15 "java/lang/String" "coder" "B" ∈ TBL := (tbl_in 1292 (by decide +kernel) (by decide +kernel))
theorem gf_J0_9 : Cond.fieldLink RJ0 9 "java/lang/String" "value" "[B" ∈ TBL := (tbl_in 1291 (by decide +kernel) (by decide +kernel))
theorem mc_J0_coder_7d493 : MC yJ0_coder_7d493 mi_J0_coder_7d493 0 := ⟨(tbl_in 607 (by decide +kernel) (by decide +kernel)), (tbl_in 24 (by decide +kernel) (by decide +kernel)), ⟨by decide +kernel, by decide +kernel⟩, by decide +kernel⟩
theorem im_J0_coder_7d493 : Cond.instanceMethod yJ0_coder_7d493 ∈ TBL := (tbl_in 605 (by decide +kernel) (by decide +kernel))
theorem se_J0_coder_7d493 : Cond.selects RJ0 yJ0_coder_7d493 yJ0_coder_7d493 ∈ TBL := (tbl_in 606 (by decide +kernel) (by decide +kernel))
theorem ml_J0_335 : ML RJ0 335 yJ0_coder_7d493 := Or.inl (tbl_in 604 (by decide +kernel) (by decide +kernel))
theorem mw_J0_335 : Cond.methodLink RJ0 335 yJ0_coder_7d493 ∈ TBL := (tbl_in 604 (by decide +kernel) (by decide +kernel))
theorem gs_J0_1053 : Cond.fieldLink RJ0 1053 "jdk/internal/util/Preconditions" "SIOOBE_FORMATTER" "Ljava/util/function/BiFunction;" ∈ TBL := (tbl_in 624 (by decide +kernel) (by decide +kernel))
theorem mc_J3_checkIndex_8e157 : MC yJ3_checkIndex_8e157 mi_J3_checkIndex_8e157 3 := ⟨(tbl_in 350 (by decide +kernel) (by decide +kernel)), (tbl_in 18 (by decide +kernel) (by decide +kernel)), ⟨by decide +kernel, by decide +kernel⟩, by decide +kernel⟩
theorem st_J3_checkIndex_8e157 : Cond.static yJ3_checkIndex_8e157 ∈ TBL := (tbl_in 349 (by decide +kernel) (by decide +kernel))
theorem ml_J0_1059 : ML RJ0 1059 yJ3_checkIndex_8e157 := Or.inl (tbl_in 626 (by decide +kernel) (by decide +kernel))
theorem mc_J0_checkIndex_df160 : MC yJ0_checkIndex_df160 mi_J0_checkIndex_df160 2 := ⟨(tbl_in 623 (by decide +kernel) (by decide +kernel)), (tbl_in 24 (by decide +kernel) (by decide +kernel)), ⟨by decide +kernel, by decide +kernel⟩, by decide +kernel⟩
theorem st_J0_checkIndex_df160 : Cond.static yJ0_checkIndex_df160 ∈ TBL := (tbl_in 622 (by decide +kernel) (by decide +kernel))
theorem ml_J1_9 : ML RJ1 9 yJ0_checkIndex_df160 := Or.inl (tbl_in 621 (by decide +kernel) (by decide +kernel))
theorem mc_J0_isLatin1_aae02 : MC yJ0_isLatin1_aae02 mi_J0_isLatin1_aae02 0 := ⟨(tbl_in 617 (by decide +kernel) (by decide +kernel)), (tbl_in 24 (by decide +kernel) (by decide +kernel)), ⟨by decide +kernel, by decide +kernel⟩, by decide +kernel⟩
theorem im_J0_isLatin1_aae02 : Cond.instanceMethod yJ0_isLatin1_aae02 ∈ TBL := (tbl_in 615 (by decide +kernel) (by decide +kernel))
theorem se_J0_isLatin1_aae02 : Cond.selects RJ0 yJ0_isLatin1_aae02 yJ0_isLatin1_aae02 ∈ TBL := (tbl_in 616 (by decide +kernel) (by decide +kernel))
theorem ml_J0_492 : ML RJ0 492 yJ0_isLatin1_aae02 := Or.inl (tbl_in 614 (by decide +kernel) (by decide +kernel))
theorem mw_J0_492 : Cond.methodLink RJ0 492 yJ0_isLatin1_aae02 ∈ TBL := (tbl_in 614 (by decide +kernel) (by decide +kernel))
theorem mc_J1_charAt_3b067 : MC yJ1_charAt_3b067 mi_J1_charAt_3b067 2 := ⟨(tbl_in 620 (by decide +kernel) (by decide +kernel)), (tbl_in 25 (by decide +kernel) (by decide +kernel)), ⟨by decide +kernel, by decide +kernel⟩, by decide +kernel⟩
theorem st_J1_charAt_3b067 : Cond.static yJ1_charAt_3b067 ∈ TBL := (tbl_in 619 (by decide +kernel) (by decide +kernel))
theorem ml_J0_495 : ML RJ0 495 yJ1_charAt_3b067 := Or.inl (tbl_in 618 (by decide +kernel) (by decide +kernel))
theorem mc_J0_length_8abf5 : MC yJ0_length_8abf5 mi_J0_length_8abf5 0 := ⟨(tbl_in 603 (by decide +kernel) (by decide +kernel)), (tbl_in 24 (by decide +kernel) (by decide +kernel)), ⟨by decide +kernel, by decide +kernel⟩, by decide +kernel⟩
theorem im_J0_length_8abf5 : Cond.instanceMethod yJ0_length_8abf5 ∈ TBL := (tbl_in 601 (by decide +kernel) (by decide +kernel))
theorem se_J0_length_8abf5 : Cond.selects RJ0 yJ0_length_8abf5 yJ0_length_8abf5 ∈ TBL := (tbl_in 602 (by decide +kernel) (by decide +kernel))
theorem ml_X7_80 : ML RX7 80 yJ0_length_8abf5 := Or.inl (tbl_in 600 (by decide +kernel) (by decide +kernel))
theorem mw_X7_80 : Cond.methodLink RX7 80 yJ0_length_8abf5 ∈ TBL := (tbl_in 600 (by decide +kernel) (by decide +kernel))
theorem mc_J0_charAt_5068e : MC yJ0_charAt_5068e mi_J0_charAt_5068e 1 := ⟨(tbl_in 613 (by decide +kernel) (by decide +kernel)), (tbl_in 24 (by decide +kernel) (by decide +kernel)), ⟨by decide +kernel, by decide +kernel⟩, by decide +kernel⟩
theorem im_J0_charAt_5068e : Cond.instanceMethod yJ0_charAt_5068e ∈ TBL := (tbl_in 611 (by decide +kernel) (by decide +kernel))
theorem se_J0_charAt_5068e : Cond.selects RJ0 yJ0_charAt_5068e yJ0_charAt_5068e ∈ TBL := (tbl_in 612 (by decide +kernel) (by decide +kernel))
theorem ml_X7_85 : ML RX7 85 yJ0_charAt_5068e := Or.inl (tbl_in 610 (by decide +kernel) (by decide +kernel))
theorem mw_X7_85 : Cond.methodLink RX7 85 yJ0_charAt_5068e ∈ TBL := (tbl_in 610 (by decide +kernel) (by decide +kernel))
theorem mc_X7_spells : MC yX7_spells mi_X7_spells 4 := ⟨(tbl_in 599 (by decide +kernel) (by decide +kernel)), (tbl_in 7 (by decide +kernel) (by decide +kernel)), ⟨by decide +kernel, by decide +kernel⟩, by decide +kernel⟩
theorem st_X7_spells : Cond.static yX7_spells ∈ TBL := (tbl_in 598 (by decide +kernel) (by decide +kernel))
theorem ml_X7_62 : ML RX7 62 yX7_spells := Or.inl (tbl_in 597 (by decide +kernel) (by decide +kernel))
theorem mc_X7_isLetter : MC yX7_isLetter mi_X7_isLetter 1 := ⟨(tbl_in 588 (by decide +kernel) (by decide +kernel)), (tbl_in 7 (by decide +kernel) (by decide +kernel)), ⟨by decide +kernel, by decide +kernel⟩, by decide +kernel⟩
theorem st_X7_isLetter : Cond.static yX7_isLetter ∈ TBL := (tbl_in 587 (by decide +kernel) (by decide +kernel))
theorem ml_X7_39 : ML RX7 39 yX7_isLetter := Or.inl (tbl_in 586 (by decide +kernel) (by decide +kernel))
theorem mc_X7_wordKind : MC yX7_wordKind mi_X7_wordKind 3 := ⟨(tbl_in 595 (by decide +kernel) (by decide +kernel)), (tbl_in 7 (by decide +kernel) (by decide +kernel)), ⟨by decide +kernel, by decide +kernel⟩, by decide +kernel⟩
theorem st_X7_wordKind : Cond.static yX7_wordKind ∈ TBL := (tbl_in 594 (by decide +kernel) (by decide +kernel))
theorem ml_X7_52 : ML RX7 52 yX7_wordKind := Or.inl (tbl_in 593 (by decide +kernel) (by decide +kernel))
theorem mc_X7_signKind : MC yX7_signKind mi_X7_signKind 1 := ⟨(tbl_in 655 (by decide +kernel) (by decide +kernel)), (tbl_in 7 (by decide +kernel) (by decide +kernel)), ⟨by decide +kernel, by decide +kernel⟩, by decide +kernel⟩
theorem st_X7_signKind : Cond.static yX7_signKind ∈ TBL := (tbl_in 654 (by decide +kernel) (by decide +kernel))
theorem ml_X7_45 : ML RX7 45 yX7_signKind := Or.inl (tbl_in 653 (by decide +kernel) (by decide +kernel))
theorem mc_X7_addWord : MC yX7_addWord mi_X7_addWord 2 := ⟨(tbl_in 592 (by decide +kernel) (by decide +kernel)), (tbl_in 7 (by decide +kernel) (by decide +kernel)), ⟨by decide +kernel, by decide +kernel⟩, by decide +kernel⟩
theorem im_X7_addWord : Cond.instanceMethod yX7_addWord ∈ TBL := (tbl_in 591 (by decide +kernel) (by decide +kernel))
theorem se_X7_addWord : Cond.selects RX7 yX7_addWord yX7_addWord ∈ TBL := sel_in (q := (yX7_addWord, 3)) 37 (by decide +kernel) (by decide +kernel)
theorem ml_X7_42 : ML RX7 42 yX7_addWord := Or.inl (tbl_in 589 (by decide +kernel) (by decide +kernel))
theorem mc_X7_addNumber : MC yX7_addNumber mi_X7_addNumber 2 := ⟨(tbl_in 581 (by decide +kernel) (by decide +kernel)), (tbl_in 7 (by decide +kernel) (by decide +kernel)), ⟨by decide +kernel, by decide +kernel⟩, by decide +kernel⟩
theorem im_X7_addNumber : Cond.instanceMethod yX7_addNumber ∈ TBL := (tbl_in 580 (by decide +kernel) (by decide +kernel))
theorem se_X7_addNumber : Cond.selects RX7 yX7_addNumber yX7_addNumber ∈ TBL := sel_in (q := (yX7_addNumber, 3)) 35 (by decide +kernel) (by decide +kernel)
theorem ml_X7_35 : ML RX7 35 yX7_addNumber := Or.inl (tbl_in 578 (by decide +kernel) (by decide +kernel))
theorem fl_X6_98 : LF RX6 98 8 2 := ⟨_, "PanelHouse$Tokens", rfl, by decide, Or.inl rfl, Or.inr ⟨"PanelHouse", (nst_in 94 (by decide +kernel) (by decide +kernel))⟩⟩
theorem fl_X6_101 : LF RX6 101 8 0 := ⟨_, "PanelHouse$Tokens", rfl, by decide, Or.inl rfl, Or.inr ⟨"PanelHouse", (nst_in 90 (by decide +kernel) (by decide +kernel))⟩⟩
theorem fl_X6_104 : LF RX6 104 8 1 := ⟨_, "PanelHouse$Tokens", rfl, by decide, Or.inl rfl, Or.inr ⟨"PanelHouse", (nst_in 92 (by decide +kernel) (by decide +kernel))⟩⟩
theorem mc_X6_mark : MC yX6_mark mi_X6_mark 1 := ⟨(tbl_in 667 (by decide +kernel) (by decide +kernel)), (tbl_in 6 (by decide +kernel) (by decide +kernel)), ⟨by decide +kernel, by decide +kernel⟩, by decide +kernel⟩
theorem im_X6_mark : Cond.instanceMethod yX6_mark ∈ TBL := (tbl_in 666 (by decide +kernel) (by decide +kernel))
theorem se_X6_mark : Cond.selects RX6 yX6_mark yX6_mark ∈ TBL := sel_in (q := (yX6_mark, 7)) 40 (by decide +kernel) (by decide +kernel)
theorem ml_X6_68 : ML RX6 68 yX6_mark := Or.inl (tbl_in 664 (by decide +kernel) (by decide +kernel))
theorem mc_X6_goOn : MC yX6_goOn mi_X6_goOn 0 := ⟨(tbl_in 659 (by decide +kernel) (by decide +kernel)), (tbl_in 6 (by decide +kernel) (by decide +kernel)), ⟨by decide +kernel, by decide +kernel⟩, by decide +kernel⟩
theorem im_X6_goOn : Cond.instanceMethod yX6_goOn ∈ TBL := (tbl_in 658 (by decide +kernel) (by decide +kernel))
theorem se_X6_goOn : Cond.selects RX6 yX6_goOn yX6_goOn ∈ TBL := sel_in (q := (yX6_goOn, 7)) 38 (by decide +kernel) (by decide +kernel)
theorem ml_X6_42 : ML RX6 42 yX6_goOn := Or.inl (tbl_in 656 (by decide +kernel) (by decide +kernel))
theorem ml_X6_85 : ML RX6 85 yX8_isWithin := Or.inr ⟨"PanelHouse", (nst_in 676 (by decide +kernel) (by decide +kernel))⟩
theorem mm_J7_304 : Cond.methodLink RJ7 304 Lib.Math.min.name ∈ TBL := (tbl_in 294 (by decide +kernel) (by decide +kernel))
theorem al_J7_150 : Cond.methodLink RJ7 150 arraycopyName ∈ TBL := (tbl_in 297 (by decide +kernel) (by decide +kernel))
theorem mm_X6_48 : Cond.methodLink RX6 48 Lib.Math.min.name ∈ TBL := (tbl_in 701 (by decide +kernel) (by decide +kernel))
theorem mm_X6_54 : Cond.methodLink RX6 54 Lib.Math.max.name ∈ TBL := (tbl_in 702 (by decide +kernel) (by decide +kernel))
theorem ln_X6_57 : LN RX6 57 4 2 := ⟨_, rfl, rfl, (tbl_in 703 (by decide +kernel) (by decide +kernel)), (tbl_in 143 (by decide +kernel) (by decide +kernel)), (tbl_in 9 (by decide +kernel) (by decide +kernel))⟩
theorem mc_J7_copyOf_59c91 : MC yJ7_copyOf_59c91 mi_J7_copyOf_59c91 2 := ⟨(tbl_in 706 (by decide +kernel) (by decide +kernel)), (tbl_in 14 (by decide +kernel) (by decide +kernel)), ⟨by decide +kernel, by decide +kernel⟩, by decide +kernel⟩
theorem st_J7_copyOf_59c91 : Cond.static yJ7_copyOf_59c91 ∈ TBL := (tbl_in 705 (by decide +kernel) (by decide +kernel))
theorem ml_X6_59 : ML RX6 59 yJ7_copyOf_59c91 := Or.inl (tbl_in 704 (by decide +kernel) (by decide +kernel))
theorem mc_X3_init : MC yX3_init mi_X3_init 2 := ⟨(tbl_in 146 (by decide +kernel) (by decide +kernel)), (tbl_in 9 (by decide +kernel) (by decide +kernel)), ⟨by decide +kernel, by decide +kernel⟩, by decide +kernel⟩
theorem im_X3_init : Cond.instanceMethod yX3_init ∈ TBL := (tbl_in 145 (by decide +kernel) (by decide +kernel))
theorem ml_X6_65 : ML RX6 65 yX3_init := Or.inr ⟨"PanelHouse", (nst_in 714 (by decide +kernel) (by decide +kernel))⟩
theorem ob_Jxa1e45_1 : Cond.methodLink RJxa1e45 1 Lib.objectInit ∈ TBL := (tbl_in 46 (by decide +kernel) (by decide +kernel))
theorem mc_Jxa1e45_init_da8c8 : MC yJxa1e45_init_da8c8 mi_Jxa1e45_init_da8c8 0 := ⟨(tbl_in 45 (by decide +kernel) (by decide +kernel)), (tbl_in 2 (by decide +kernel) (by decide +kernel)), ⟨by decide +kernel, by decide +kernel⟩, by decide +kernel⟩
theorem im_Jxa1e45_init_da8c8 : Cond.instanceMethod yJxa1e45_init_da8c8 ∈ TBL := (tbl_in 44 (by decide +kernel) (by decide +kernel))
theorem ml_Jxc12de_1 : ML RJxc12de 1 yJxa1e45_init_da8c8 := Or.inl (tbl_in 43 (by decide +kernel) (by decide +kernel))
theorem fl_Jxc12de_7 : LF RJxc12de 7 0 0 := ⟨_, "java/util/AbstractList", rfl, by decide, Or.inl rfl, Or.inl (tbl_in 51 (by decide +kernel) (by decide +kernel))⟩
theorem fw_Jxc12de_7 (nm : String) : FW RJxc12de nm 7 0 0 := fun r hr => by cases hr; exact Or.inl rfl
theorem mc_Jxc12de_init_da8c8 : MC yJxc12de_init_da8c8 mi_Jxc12de_init_da8c8 0 := ⟨(tbl_in 42 (by decide +kernel) (by decide +kernel)), (tbl_in 3 (by decide +kernel) (by decide +kernel)), ⟨by decide +kernel, by decide +kernel⟩, by decide +kernel⟩
theorem im_Jxc12de_init_da8c8 : Cond.instanceMethod yJxc12de_init_da8c8 ∈ TBL := (tbl_in 41 (by decide +kernel) (by decide +kernel))
theorem ml_Jx4a65c_1 : ML RJx4a65c 1 yJxc12de_init_da8c8 := Or.inl (tbl_in 40 (by decide +kernel) (by decide +kernel))
theorem gs_Jx4a65c_39 : Cond.fieldLink RJx4a65c 39 "java/util/ArrayList" "DEFAULTCAPACITY_EMPTY_ELEMENTDATA" "[Ljava/lang/Object;" ∈ TBL := (tbl_in 47 (by decide +kernel) (by decide +kernel))
theorem fl_Jx4a65c_9 : LF RJx4a65c 9 0 1 := ⟨_, "java/util/ArrayList", rfl, by decide, Or.inl rfl, Or.inl (tbl_in 49 (by decide +kernel) (by decide +kernel))⟩
theorem fw_Jx4a65c_9 (nm : String) : FW RJx4a65c nm 9 0 1 := fun r hr => by cases hr; exact Or.inl rfl
theorem ob_X8_3 : Cond.methodLink RX8 3 Lib.objectInit ∈ TBL := (tbl_in 32 (by decide +kernel) (by decide +kernel))
theorem ln_X8_9 : LN RX8 9 0 3 := ⟨_, rfl, rfl, (tbl_in 35 (by decide +kernel) (by decide +kernel)), (tbl_in 36 (by decide +kernel) (by decide +kernel)), (tbl_in 4 (by decide +kernel) (by decide +kernel))⟩
theorem mc_Jx4a65c_init_da8c8 : MC yJx4a65c_init_da8c8 mi_Jx4a65c_init_da8c8 0 := ⟨(tbl_in 39 (by decide +kernel) (by decide +kernel)), (tbl_in 4 (by decide +kernel) (by decide +kernel)), ⟨by decide +kernel, by decide +kernel⟩, by decide +kernel⟩
theorem im_Jx4a65c_init_da8c8 : Cond.instanceMethod yJx4a65c_init_da8c8 ∈ TBL := (tbl_in 38 (by decide +kernel) (by decide +kernel))
theorem ml_X8_11 : ML RX8 11 yJx4a65c_init_da8c8 := Or.inl (tbl_in 37 (by decide +kernel) (by decide +kernel))
theorem fl_X8_12 : LF RX8 12 9 0 := ⟨_, "PanelHouse", rfl, by decide, Or.inl rfl, Or.inl (tbl_in 157 (by decide +kernel) (by decide +kernel))⟩
theorem fwi_X8_12 : FW RX8 "<init>" 12 9 0 := fun r hr => by cases hr; exact Or.inr ⟨rfl, rfl, rfl, (tbl_in 157 (by decide +kernel) (by decide +kernel))⟩
theorem fl_X8_16 : LF RX8 16 9 1 := ⟨_, "PanelHouse", rfl, by decide, Or.inl rfl, Or.inl (tbl_in 158 (by decide +kernel) (by decide +kernel))⟩
theorem fwi_X8_16 : FW RX8 "<init>" 16 9 1 := fun r hr => by cases hr; exact Or.inr ⟨rfl, rfl, rfl, (tbl_in 158 (by decide +kernel) (by decide +kernel))⟩
theorem fl_X8_19 : LF RX8 19 9 2 := ⟨_, "PanelHouse", rfl, by decide, Or.inl rfl, Or.inl (tbl_in 159 (by decide +kernel) (by decide +kernel))⟩
theorem fwi_X8_19 : FW RX8 "<init>" 19 9 2 := fun r hr => by cases hr; exact Or.inr ⟨rfl, rfl, rfl, (tbl_in 159 (by decide +kernel) (by decide +kernel))⟩
theorem ln_X8_22 : LN RX8 22 6 2 := ⟨_, rfl, rfl, (tbl_in 61 (by decide +kernel) (by decide +kernel)), (tbl_in 62 (by decide +kernel) (by decide +kernel)), (tbl_in 5 (by decide +kernel) (by decide +kernel))⟩
theorem mc_X5_init : MC yX5_init mi_X5_init 0 := ⟨(tbl_in 65 (by decide +kernel) (by decide +kernel)), (tbl_in 5 (by decide +kernel) (by decide +kernel)), ⟨by decide +kernel, by decide +kernel⟩, by decide +kernel⟩
theorem im_X5_init : Cond.instanceMethod yX5_init ∈ TBL := (tbl_in 64 (by decide +kernel) (by decide +kernel))
theorem ml_X8_24 : ML RX8 24 yX5_init := Or.inr ⟨"PanelHouse", (nst_in 63 (by decide +kernel) (by decide +kernel))⟩
theorem fl_X8_25 : LF RX8 25 9 3 := ⟨_, "PanelHouse", rfl, by decide, Or.inl rfl, Or.inl (tbl_in 160 (by decide +kernel) (by decide +kernel))⟩
theorem fwi_X8_25 : FW RX8 "<init>" 25 9 3 := fun r hr => by cases hr; exact Or.inr ⟨rfl, rfl, rfl, (tbl_in 160 (by decide +kernel) (by decide +kernel))⟩
theorem ln_X8_29 : LN RX8 29 7 7 := ⟨_, rfl, rfl, (tbl_in 77 (by decide +kernel) (by decide +kernel)), (tbl_in 78 (by decide +kernel) (by decide +kernel)), (tbl_in 6 (by decide +kernel) (by decide +kernel))⟩
theorem mc_X6_init : MC yX6_init mi_X6_init 0 := ⟨(tbl_in 81 (by decide +kernel) (by decide +kernel)), (tbl_in 6 (by decide +kernel) (by decide +kernel)), ⟨by decide +kernel, by decide +kernel⟩, by decide +kernel⟩
theorem im_X6_init : Cond.instanceMethod yX6_init ∈ TBL := (tbl_in 80 (by decide +kernel) (by decide +kernel))
theorem ml_X8_31 : ML RX8 31 yX6_init := Or.inr ⟨"PanelHouse", (nst_in 79 (by decide +kernel) (by decide +kernel))⟩
theorem fl_X8_32 : LF RX8 32 9 4 := ⟨_, "PanelHouse", rfl, by decide, Or.inl rfl, Or.inl (tbl_in 161 (by decide +kernel) (by decide +kernel))⟩
theorem fwi_X8_32 : FW RX8 "<init>" 32 9 4 := fun r hr => by cases hr; exact Or.inr ⟨rfl, rfl, rfl, (tbl_in 161 (by decide +kernel) (by decide +kernel))⟩
theorem ln_X8_36 : LN RX8 36 5 3 := ⟨_, rfl, rfl, (tbl_in 125 (by decide +kernel) (by decide +kernel)), (tbl_in 126 (by decide +kernel) (by decide +kernel)), (tbl_in 8 (by decide +kernel) (by decide +kernel))⟩
theorem mc_X4_init : MC yX4_init mi_X4_init 0 := ⟨(tbl_in 129 (by decide +kernel) (by decide +kernel)), (tbl_in 8 (by decide +kernel) (by decide +kernel)), ⟨by decide +kernel, by decide +kernel⟩, by decide +kernel⟩
theorem im_X4_init : Cond.instanceMethod yX4_init ∈ TBL := (tbl_in 128 (by decide +kernel) (by decide +kernel))
theorem ml_X8_38 : ML RX8 38 yX4_init := Or.inr ⟨"PanelHouse", (nst_in 127 (by decide +kernel) (by decide +kernel))⟩
theorem fl_X8_39 : LF RX8 39 9 5 := ⟨_, "PanelHouse", rfl, by decide, Or.inl rfl, Or.inl (tbl_in 162 (by decide +kernel) (by decide +kernel))⟩
theorem fwi_X8_39 : FW RX8 "<init>" 39 9 5 := fun r hr => by cases hr; exact Or.inr ⟨rfl, rfl, rfl, (tbl_in 162 (by decide +kernel) (by decide +kernel))⟩
theorem cl_X8_43 : Cond.classLink RX8 43 "PanelHouse$RateText" ∈ TBL := (tbl_in 141 (by decide +kernel) (by decide +kernel))
theorem fl_X8_45 : LF RX8 45 9 6 := ⟨_, "PanelHouse", rfl, by decide, Or.inl rfl, Or.inl (tbl_in 163 (by decide +kernel) (by decide +kernel))⟩
theorem fwi_X8_45 : FW RX8 "<init>" 45 9 6 := fun r hr => by cases hr; exact Or.inr ⟨rfl, rfl, rfl, (tbl_in 163 (by decide +kernel) (by decide +kernel))⟩
theorem ln_X8_43 : LN RX8 43 4 2 := ⟨_, rfl, rfl, (tbl_in 141 (by decide +kernel) (by decide +kernel)), (tbl_in 143 (by decide +kernel) (by decide +kernel)), (tbl_in 9 (by decide +kernel) (by decide +kernel))⟩
theorem ml_X8_49 : ML RX8 49 yX3_init := Or.inr ⟨"PanelHouse", (nst_in 144 (by decide +kernel) (by decide +kernel))⟩
theorem fl_X8_52 : LF RX8 52 9 7 := ⟨_, "PanelHouse", rfl, by decide, Or.inl rfl, Or.inl (tbl_in 164 (by decide +kernel) (by decide +kernel))⟩
theorem fw_X8_52 (nm : String) : FW RX8 nm 52 9 7 := fun r hr => by cases hr; exact Or.inl rfl
theorem fl_X8_56 : LF RX8 56 9 8 := ⟨_, "PanelHouse", rfl, by decide, Or.inl rfl, Or.inl (tbl_in 165 (by decide +kernel) (by decide +kernel))⟩
theorem fw_X8_56 (nm : String) : FW RX8 nm 56 9 8 := fun r hr => by cases hr; exact Or.inl rfl
theorem fl_X8_60 : LF RX8 60 9 9 := ⟨_, "PanelHouse", rfl, by decide, Or.inl rfl, Or.inl (tbl_in 166 (by decide +kernel) (by decide +kernel))⟩
theorem fw_X8_60 (nm : String) : FW RX8 nm 60 9 9 := fun r hr => by cases hr; exact Or.inl rfl
theorem fl_Jx4a65c_48 : LF RJx4a65c 48 0 2 := ⟨_, "java/util/ArrayList", rfl, by decide, Or.inl rfl, Or.inl (tbl_in 50 (by decide +kernel) (by decide +kernel))⟩
theorem kc_J8_200 : Cond.constant RJ8 200 (2147483639) ∈ TBL := (tbl_in 265 (by decide +kernel) (by decide +kernel))
theorem mm_J8_194 : Cond.methodLink RJ8 194 Lib.Math.max.name ∈ TBL := (tbl_in 262 (by decide +kernel) (by decide +kernel))
theorem mc_J8_hugeLength_7cf53 : MC yJ8_hugeLength_7cf53 mi_J8_hugeLength_7cf53 2 := ⟨(tbl_in 268 (by decide +kernel) (by decide +kernel)), (tbl_in 12 (by decide +kernel) (by decide +kernel)), ⟨by decide +kernel, by decide +kernel⟩, by decide +kernel⟩
theorem st_J8_hugeLength_7cf53 : Cond.static yJ8_hugeLength_7cf53 ∈ TBL := (tbl_in 267 (by decide +kernel) (by decide +kernel))
theorem ml_J8_201 : ML RJ8 201 yJ8_hugeLength_7cf53 := Or.inl (tbl_in 266 (by decide +kernel) (by decide +kernel))
theorem cl_J7_110 : Cond.classLink RJ7 110 "[Ljava/lang/Object;" ∈ TBL := (tbl_in 291 (by decide +kernel) (by decide +kernel))
theorem cl_J7_2 : Cond.classLink RJ7 2 "java/lang/Object" ∈ TBL := (tbl_in 293 (by decide +kernel) (by decide +kernel))
theorem gc_J7_86 : Cond.methodLink RJ7 86 ⟨"java/lang/Object", "getClass", "()Ljava/lang/Class;"⟩ ∈ TBL := (tbl_in 272 (by decide +kernel) (by decide +kernel))
theorem mc_J7_copyOf_6403c : MC yJ7_copyOf_6403c mi_J7_copyOf_6403c 3 := ⟨(tbl_in 290 (by decide +kernel) (by decide +kernel)), (tbl_in 14 (by decide +kernel) (by decide +kernel)), ⟨by decide +kernel, by decide +kernel⟩, by decide +kernel⟩
theorem st_J7_copyOf_6403c : Cond.static yJ7_copyOf_6403c ∈ TBL := (tbl_in 289 (by decide +kernel) (by decide +kernel))
theorem ml_J7_300 : ML RJ7 300 yJ7_copyOf_6403c := Or.inl (tbl_in 288 (by decide +kernel) (by decide +kernel))
theorem mm_Jx4a65c_79 : Cond.methodLink RJx4a65c 79 Lib.Math.max.name ∈ TBL := (tbl_in 300 (by decide +kernel) (by decide +kernel))
theorem cl_Jx4a65c_7 : Cond.classLink RJx4a65c 7 "java/lang/Object" ∈ TBL := (tbl_in 301 (by decide +kernel) (by decide +kernel))
theorem mc_J8_newLength_cabcc : MC yJ8_newLength_cabcc mi_J8_newLength_cabcc 3 := ⟨(tbl_in 261 (by decide +kernel) (by decide +kernel)), (tbl_in 12 (by decide +kernel) (by decide +kernel)), ⟨by decide +kernel, by decide +kernel⟩, by decide +kernel⟩
theorem st_J8_newLength_cabcc : Cond.static yJ8_newLength_cabcc ∈ TBL := (tbl_in 260 (by decide +kernel) (by decide +kernel))
theorem ml_Jx4a65c_73 : ML RJx4a65c 73 yJ8_newLength_cabcc := Or.inl (tbl_in 259 (by decide +kernel) (by decide +kernel))
theorem mc_J7_copyOf_1904c : MC yJ7_copyOf_1904c mi_J7_copyOf_1904c 2 := ⟨(tbl_in 271 (by decide +kernel) (by decide +kernel)), (tbl_in 14 (by decide +kernel) (by decide +kernel)), ⟨by decide +kernel, by decide +kernel⟩, by decide +kernel⟩
theorem st_J7_copyOf_1904c : Cond.static yJ7_copyOf_1904c ∈ TBL := (tbl_in 270 (by decide +kernel) (by decide +kernel))
theorem ml_Jx4a65c_66 : ML RJx4a65c 66 yJ7_copyOf_1904c := Or.inl (tbl_in 269 (by decide +kernel) (by decide +kernel))
theorem mc_Jx4a65c_grow_92f84 : MC yJx4a65c_grow_92f84 mi_Jx4a65c_grow_92f84 1 := ⟨(tbl_in 258 (by decide +kernel) (by decide +kernel)), (tbl_in 4 (by decide +kernel) (by decide +kernel)), ⟨by decide +kernel, by decide +kernel⟩, by decide +kernel⟩
theorem im_Jx4a65c_grow_92f84 : Cond.instanceMethod yJx4a65c_grow_92f84 ∈ TBL := (tbl_in 257 (by decide +kernel) (by decide +kernel))
theorem se_Jx4a65c_grow_92f84 : Cond.selects RJx4a65c yJx4a65c_grow_92f84 yJx4a65c_grow_92f84 ∈ TBL := sel_in (q := (yJx4a65c_grow_92f84, 3)) 2 (by decide +kernel) (by decide +kernel)
theorem ml_Jx4a65c_69 : ML RJx4a65c 69 yJx4a65c_grow_92f84 := Or.inl (tbl_in 255 (by decide +kernel) (by decide +kernel))
theorem mc_Jx4a65c_grow_d5877 : MC yJx4a65c_grow_d5877 mi_Jx4a65c_grow_d5877 0 := ⟨(tbl_in 254 (by decide +kernel) (by decide +kernel)), (tbl_in 4 (by decide +kernel) (by decide +kernel)), ⟨by decide +kernel, by decide +kernel⟩, by decide +kernel⟩
theorem im_Jx4a65c_grow_d5877 : Cond.instanceMethod yJx4a65c_grow_d5877 ∈ TBL := (tbl_in 253 (by decide +kernel) (by decide +kernel))
theorem se_Jx4a65c_grow_d5877 : Cond.selects RJx4a65c yJx4a65c_grow_d5877 yJx4a65c_grow_d5877 ∈ TBL := sel_in (q := (yJx4a65c_grow_d5877, 3)) 1 (by decide +kernel) (by decide +kernel)
theorem ml_Jx4a65c_129 : ML RJx4a65c 129 yJx4a65c_grow_d5877 := Or.inl (tbl_in 251 (by decide +kernel) (by decide +kernel))
theorem fw_Jx4a65c_48 (nm : String) : FW RJx4a65c nm 48 0 2 := fun r hr => by cases hr; exact Or.inl rfl
theorem fl_Jx4a65c_63 : LF RJx4a65c 63 0 0 := ⟨_, "java/util/ArrayList", rfl, by decide, Or.inr (tbl_in 53 (by decide +kernel) (by decide +kernel)), Or.inl (tbl_in 52 (by decide +kernel) (by decide +kernel))⟩
theorem fw_Jx4a65c_63 (nm : String) : FW RJx4a65c nm 63 0 0 := fun r hr => by cases hr; exact Or.inl rfl
theorem mc_Jx4a65c_add_72be8 : MC yJx4a65c_add_72be8 mi_Jx4a65c_add_72be8 3 := ⟨(tbl_in 250 (by decide +kernel) (by decide +kernel)), (tbl_in 4 (by decide +kernel) (by decide +kernel)), ⟨by decide +kernel, by decide +kernel⟩, by decide +kernel⟩
theorem im_Jx4a65c_add_72be8 : Cond.instanceMethod yJx4a65c_add_72be8 ∈ TBL := (tbl_in 249 (by decide +kernel) (by decide +kernel))
theorem se_Jx4a65c_add_72be8 : Cond.selects RJx4a65c yJx4a65c_add_72be8 yJx4a65c_add_72be8 ∈ TBL := sel_in (q := (yJx4a65c_add_72be8, 3)) 0 (by decide +kernel) (by decide +kernel)
theorem ml_Jx4a65c_131 : ML RJx4a65c 131 yJx4a65c_add_72be8 := Or.inl (tbl_in 247 (by decide +kernel) (by decide +kernel))
theorem ml_X8_63 : ML RX8 63 yX8_isWithin := Or.inl (tbl_in 192 (by decide +kernel) (by decide +kernel))
theorem mc_Jx4a65c_size_8abf5 : MC yJx4a65c_size_8abf5 mi_Jx4a65c_size_8abf5 0 := ⟨(tbl_in 198 (by decide +kernel) (by decide +kernel)), (tbl_in 4 (by decide +kernel) (by decide +kernel)), ⟨by decide +kernel, by decide +kernel⟩, by decide +kernel⟩
theorem im_Jx4a65c_size_8abf5 : Cond.instanceMethod yJx4a65c_size_8abf5 ∈ TBL := (tbl_in 196 (by decide +kernel) (by decide +kernel))
theorem se_Jx4a65c_size_8abf5 : Cond.selects RJx4a65c yJx4a65c_size_8abf5 yJx4a65c_size_8abf5 ∈ TBL := (tbl_in 197 (by decide +kernel) (by decide +kernel))
theorem ml_X8_67 : ML RX8 67 yJx4a65c_size_8abf5 := Or.inl (tbl_in 195 (by decide +kernel) (by decide +kernel))
theorem ln_X8_71 : LN RX8 71 2 9 := ⟨_, rfl, rfl, (tbl_in 199 (by decide +kernel) (by decide +kernel)), (tbl_in 200 (by decide +kernel) (by decide +kernel)), (tbl_in 11 (by decide +kernel) (by decide +kernel))⟩
theorem mc_X1_init : MC yX1_init mi_X1_init 6 := ⟨(tbl_in 203 (by decide +kernel) (by decide +kernel)), (tbl_in 11 (by decide +kernel) (by decide +kernel)), ⟨by decide +kernel, by decide +kernel⟩, by decide +kernel⟩
theorem im_X1_init : Cond.instanceMethod yX1_init ∈ TBL := (tbl_in 202 (by decide +kernel) (by decide +kernel))
theorem ml_X8_73 : ML RX8 73 yX1_init := Or.inr ⟨"PanelHouse", (nst_in 201 (by decide +kernel) (by decide +kernel))⟩
theorem mc_Jx4a65c_add_9ea2d : MC yJx4a65c_add_9ea2d mi_Jx4a65c_add_9ea2d 1 := ⟨(tbl_in 246 (by decide +kernel) (by decide +kernel)), (tbl_in 4 (by decide +kernel) (by decide +kernel)), ⟨by decide +kernel, by decide +kernel⟩, by decide +kernel⟩
theorem im_Jx4a65c_add_9ea2d : Cond.instanceMethod yJx4a65c_add_9ea2d ∈ TBL := (tbl_in 244 (by decide +kernel) (by decide +kernel))
theorem se_Jx4a65c_add_9ea2d : Cond.selects RJx4a65c yJx4a65c_add_9ea2d yJx4a65c_add_9ea2d ∈ TBL := (tbl_in 245 (by decide +kernel) (by decide +kernel))
theorem ml_X8_76 : ML RX8 76 yJx4a65c_add_9ea2d := Or.inl (tbl_in 243 (by decide +kernel) (by decide +kernel))
theorem fl_X8_80 : LF RX8 80 2 0 := ⟨_, "PanelHouse$Feature", rfl, by decide, Or.inl rfl, Or.inr ⟨"PanelHouse", (nst_in 206 (by decide +kernel) (by decide +kernel))⟩⟩
theorem kc_X8_227 : Cond.constant RX8 227 (100000) ∈ TBL := (tbl_in 309 (by decide +kernel) (by decide +kernel))
theorem mc_X8_isCirculation : MC yX8_isCirculation mi_X8_isCirculation 1 := ⟨(tbl_in 308 (by decide +kernel) (by decide +kernel)), (tbl_in 1 (by decide +kernel) (by decide +kernel)), ⟨by decide +kernel, by decide +kernel⟩, by decide +kernel⟩
theorem st_X8_isCirculation : Cond.static yX8_isCirculation ∈ TBL := (tbl_in 307 (by decide +kernel) (by decide +kernel))
theorem ml_X8_83 : ML RX8 83 yX8_isCirculation := Or.inl (tbl_in 306 (by decide +kernel) (by decide +kernel))
theorem ln_X8_87 : LN RX8 87 3 4 := ⟨_, rfl, rfl, (tbl_in 310 (by decide +kernel) (by decide +kernel)), (tbl_in 311 (by decide +kernel) (by decide +kernel)), (tbl_in 16 (by decide +kernel) (by decide +kernel))⟩
theorem mc_X2_init : MC yX2_init mi_X2_init 4 := ⟨(tbl_in 314 (by decide +kernel) (by decide +kernel)), (tbl_in 16 (by decide +kernel) (by decide +kernel)), ⟨by decide +kernel, by decide +kernel⟩, by decide +kernel⟩
theorem im_X2_init : Cond.instanceMethod yX2_init ∈ TBL := (tbl_in 313 (by decide +kernel) (by decide +kernel))
theorem ml_X8_89 : ML RX8 89 yX2_init := Or.inr ⟨"PanelHouse", (nst_in 312 (by decide +kernel) (by decide +kernel))⟩
theorem fl_X8_92 : LF RX8 92 3 0 := ⟨_, "PanelHouse$Paper", rfl, by decide, Or.inl rfl, Or.inr ⟨"PanelHouse", (nst_in 320 (by decide +kernel) (by decide +kernel))⟩⟩
theorem ml_J15_105 : ML RJ15 105 yJ3_checkIndex_8e157 := Or.inl (tbl_in 348 (by decide +kernel) (by decide +kernel))
theorem mc_J15_checkIndex_7cf53 : MC yJ15_checkIndex_7cf53 mi_J15_checkIndex_7cf53 2 := ⟨(tbl_in 347 (by decide +kernel) (by decide +kernel)), (tbl_in 17 (by decide +kernel) (by decide +kernel)), ⟨by decide +kernel, by decide +kernel⟩, by decide +kernel⟩
theorem st_J15_checkIndex_7cf53 : Cond.static yJ15_checkIndex_7cf53 ∈ TBL := (tbl_in 346 (by decide +kernel) (by decide +kernel))
theorem ml_Jx4a65c_118 : ML RJx4a65c 118 yJ15_checkIndex_7cf53 := Or.inl (tbl_in 345 (by decide +kernel) (by decide +kernel))
theorem mc_Jx4a65c_elementData_915e3 : MC yJx4a65c_elementData_915e3 mi_Jx4a65c_elementData_915e3 1 := ⟨(tbl_in 354 (by decide +kernel) (by decide +kernel)), (tbl_in 4 (by decide +kernel) (by decide +kernel)), ⟨by decide +kernel, by decide +kernel⟩, by decide +kernel⟩
theorem im_Jx4a65c_elementData_915e3 : Cond.instanceMethod yJx4a65c_elementData_915e3 ∈ TBL := (tbl_in 352 (by decide +kernel) (by decide +kernel))
theorem se_Jx4a65c_elementData_915e3 : Cond.selects RJx4a65c yJx4a65c_elementData_915e3 yJx4a65c_elementData_915e3 ∈ TBL := (tbl_in 353 (by decide +kernel) (by decide +kernel))
theorem ml_Jx4a65c_123 : ML RJx4a65c 123 yJx4a65c_elementData_915e3 := Or.inl (tbl_in 351 (by decide +kernel) (by decide +kernel))
theorem mc_Jx4a65c_get_915e3 : MC yJx4a65c_get_915e3 mi_Jx4a65c_get_915e3 1 := ⟨(tbl_in 344 (by decide +kernel) (by decide +kernel)), (tbl_in 4 (by decide +kernel) (by decide +kernel)), ⟨by decide +kernel, by decide +kernel⟩, by decide +kernel⟩
theorem im_Jx4a65c_get_915e3 : Cond.instanceMethod yJx4a65c_get_915e3 ∈ TBL := (tbl_in 342 (by decide +kernel) (by decide +kernel))
theorem se_Jx4a65c_get_915e3 : Cond.selects RJx4a65c yJx4a65c_get_915e3 yJx4a65c_get_915e3 ∈ TBL := (tbl_in 343 (by decide +kernel) (by decide +kernel))
theorem ml_X8_114 : ML RX8 114 yJx4a65c_get_915e3 := Or.inl (tbl_in 341 (by decide +kernel) (by decide +kernel))
theorem cl_X8_87 : Cond.classLink RX8 87 RX2 ∈ TBL := (tbl_in 310 (by decide +kernel) (by decide +kernel))
theorem mc_X8_paperAt : MC yX8_paperAt mi_X8_paperAt 1 := ⟨(tbl_in 340 (by decide +kernel) (by decide +kernel)), (tbl_in 1 (by decide +kernel) (by decide +kernel)), ⟨by decide +kernel, by decide +kernel⟩, by decide +kernel⟩
theorem im_X8_paperAt : Cond.instanceMethod yX8_paperAt ∈ TBL := (tbl_in 339 (by decide +kernel) (by decide +kernel))
theorem se_X8_paperAt : Cond.selects RX8 yX8_paperAt yX8_paperAt ∈ TBL := sel_in (q := (yX8_paperAt, 10)) 3 (by decide +kernel) (by decide +kernel)
theorem ml_X8_93 : ML RX8 93 yX8_paperAt := Or.inl (tbl_in 337 (by decide +kernel) (by decide +kernel))
theorem mc_X8_runningMonth : MC yX8_runningMonth mi_X8_runningMonth 0 := ⟨(tbl_in 358 (by decide +kernel) (by decide +kernel)), (tbl_in 1 (by decide +kernel) (by decide +kernel)), ⟨by decide +kernel, by decide +kernel⟩, by decide +kernel⟩
theorem im_X8_runningMonth : Cond.instanceMethod yX8_runningMonth ∈ TBL := (tbl_in 357 (by decide +kernel) (by decide +kernel))
theorem se_X8_runningMonth : Cond.selects RX8 yX8_runningMonth yX8_runningMonth ∈ TBL := sel_in (q := (yX8_runningMonth, 10)) 4 (by decide +kernel) (by decide +kernel)
theorem ml_X8_97 : ML RX8 97 yX8_runningMonth := Or.inl (tbl_in 355 (by decide +kernel) (by decide +kernel))
theorem mc_X2_sellFrom : MC yX2_sellFrom mi_X2_sellFrom 2 := ⟨(tbl_in 362 (by decide +kernel) (by decide +kernel)), (tbl_in 16 (by decide +kernel) (by decide +kernel)), ⟨by decide +kernel, by decide +kernel⟩, by decide +kernel⟩
theorem im_X2_sellFrom : Cond.instanceMethod yX2_sellFrom ∈ TBL := (tbl_in 361 (by decide +kernel) (by decide +kernel))
theorem se_X2_sellFrom : Cond.selects RX2 yX2_sellFrom yX2_sellFrom ∈ TBL := sel_in (q := (yX2_sellFrom, 4)) 5 (by decide +kernel) (by decide +kernel)
theorem ml_X8_100 : ML RX8 100 yX2_sellFrom := Or.inr ⟨"PanelHouse", (nst_in 359 (by decide +kernel) (by decide +kernel))⟩
theorem mc_X0_weeksRunIn : MC yX0_weeksRunIn mi_X0_weeksRunIn 1 := ⟨(tbl_in 506 (by decide +kernel) (by decide +kernel)), (tbl_in 23 (by decide +kernel) (by decide +kernel)), ⟨by decide +kernel, by decide +kernel⟩, by decide +kernel⟩
theorem im_X0_weeksRunIn : Cond.instanceMethod yX0_weeksRunIn ∈ TBL := (tbl_in 505 (by decide +kernel) (by decide +kernel))
theorem se_X0_weeksRunIn : Cond.selects RX0 yX0_weeksRunIn yX0_weeksRunIn ∈ TBL := sel_in (q := (yX0_weeksRunIn, 11)) 21 (by decide +kernel) (by decide +kernel)
theorem ml_X8_247 : ML RX8 247 yX0_weeksRunIn := Or.inr ⟨"PanelHouse", (nst_in 503 (by decide +kernel) (by decide +kernel))⟩
theorem mc_X0_printedIn : MC yX0_printedIn mi_X0_printedIn 1 := ⟨(tbl_in 511 (by decide +kernel) (by decide +kernel)), (tbl_in 23 (by decide +kernel) (by decide +kernel)), ⟨by decide +kernel, by decide +kernel⟩, by decide +kernel⟩
theorem im_X0_printedIn : Cond.instanceMethod yX0_printedIn ∈ TBL := (tbl_in 510 (by decide +kernel) (by decide +kernel))
theorem se_X0_printedIn : Cond.selects RX0 yX0_printedIn yX0_printedIn ∈ TBL := sel_in (q := (yX0_printedIn, 11)) 22 (by decide +kernel) (by decide +kernel)
theorem ml_X8_250 : ML RX8 250 yX0_printedIn := Or.inr ⟨"PanelHouse", (nst_in 508 (by decide +kernel) (by decide +kernel))⟩
theorem fl_X8_187 : LF RX8 187 1 1 := ⟨_, "PanelHouse$Contract", rfl, by decide, Or.inl rfl, Or.inr ⟨"PanelHouse", (nst_in 397 (by decide +kernel) (by decide +kernel))⟩⟩
theorem fl_X8_253 : LF RX8 253 2 1 := ⟨_, "PanelHouse$Feature", rfl, by decide, Or.inl rfl, Or.inr ⟨"PanelHouse", (nst_in 208 (by decide +kernel) (by decide +kernel))⟩⟩
theorem mc_X4_tell : MC yX4_tell mi_X4_tell 2 := ⟨(tbl_in 515 (by decide +kernel) (by decide +kernel)), (tbl_in 8 (by decide +kernel) (by decide +kernel)), ⟨by decide +kernel, by decide +kernel⟩, by decide +kernel⟩
theorem im_X4_tell : Cond.instanceMethod yX4_tell ∈ TBL := (tbl_in 514 (by decide +kernel) (by decide +kernel))
theorem se_X4_tell : Cond.selects RX4 yX4_tell yX4_tell ∈ TBL := sel_in (q := (yX4_tell, 3)) 23 (by decide +kernel) (by decide +kernel)
theorem ml_X8_256 : ML RX8 256 yX4_tell := Or.inr ⟨"PanelHouse", (nst_in 512 (by decide +kernel) (by decide +kernel))⟩
theorem mc_X4_rateBy : MC yX4_rateBy mi_X4_rateBy 1 := ⟨(tbl_in 520 (by decide +kernel) (by decide +kernel)), (tbl_in 8 (by decide +kernel) (by decide +kernel)), ⟨by decide +kernel, by decide +kernel⟩, by decide +kernel⟩
theorem im_X4_rateBy : Cond.instanceMethod yX4_rateBy ∈ TBL := (tbl_in 519 (by decide +kernel) (by decide +kernel))
theorem se_X4_rateBy : Cond.selects RX4 yX4_rateBy yX4_rateBy ∈ TBL := sel_in (q := (yX4_rateBy, 3)) 24 (by decide +kernel) (by decide +kernel)
theorem ml_X8_259 : ML RX8 259 yX4_rateBy := Or.inr ⟨"PanelHouse", (nst_in 517 (by decide +kernel) (by decide +kernel))⟩
theorem kc_X8_263 : Cond.constantLong RX8 263 (1000) ∈ TBL := (tbl_in 536 (by decide +kernel) (by decide +kernel))
theorem cl_X8_71 : Cond.classLink RX8 71 RX1 ∈ TBL := (tbl_in 199 (by decide +kernel) (by decide +kernel))
theorem cl_X8_118 : Cond.classLink RX8 118 RX0 ∈ TBL := (tbl_in 376 (by decide +kernel) (by decide +kernel))
theorem fl_X8_120 : LF RX8 120 1 0 := ⟨_, "PanelHouse$Contract", rfl, by decide, Or.inl rfl, Or.inr ⟨"PanelHouse", (nst_in 395 (by decide +kernel) (by decide +kernel))⟩⟩
theorem ml_X8_194 : ML RX8 194 yX0_runsIn := Or.inr ⟨"PanelHouse", (nst_in 377 (by decide +kernel) (by decide +kernel))⟩
theorem fl_X8_228 : LF RX8 228 2 2 := ⟨_, "PanelHouse$Feature", rfl, by decide, Or.inl rfl, Or.inr ⟨"PanelHouse", (nst_in 210 (by decide +kernel) (by decide +kernel))⟩⟩
theorem mc_X2_isNearer : MC yX2_isNearer mi_X2_isNearer 2 := ⟨(tbl_in 389 (by decide +kernel) (by decide +kernel)), (tbl_in 16 (by decide +kernel) (by decide +kernel)), ⟨by decide +kernel, by decide +kernel⟩, by decide +kernel⟩
theorem im_X2_isNearer : Cond.instanceMethod yX2_isNearer ∈ TBL := (tbl_in 388 (by decide +kernel) (by decide +kernel))
theorem se_X2_isNearer : Cond.selects RX2 yX2_isNearer yX2_isNearer ∈ TBL := sel_in (q := (yX2_isNearer, 4)) 10 (by decide +kernel) (by decide +kernel)
theorem ml_X8_231 : ML RX8 231 yX2_isNearer := Or.inr ⟨"PanelHouse", (nst_in 386 (by decide +kernel) (by decide +kernel))⟩
theorem mc_X8_featureAt : MC yX8_featureAt mi_X8_featureAt 1 := ⟨(tbl_in 371 (by decide +kernel) (by decide +kernel)), (tbl_in 1 (by decide +kernel) (by decide +kernel)), ⟨by decide +kernel, by decide +kernel⟩, by decide +kernel⟩
theorem im_X8_featureAt : Cond.instanceMethod yX8_featureAt ∈ TBL := (tbl_in 370 (by decide +kernel) (by decide +kernel))
theorem se_X8_featureAt : Cond.selects RX8 yX8_featureAt yX8_featureAt ∈ TBL := sel_in (q := (yX8_featureAt, 10)) 6 (by decide +kernel) (by decide +kernel)
theorem ml_X8_132 : ML RX8 132 yX8_featureAt := Or.inl (tbl_in 368 (by decide +kernel) (by decide +kernel))
theorem mc_X8_hasRunning : MC yX8_hasRunning mi_X8_hasRunning 2 := ⟨(tbl_in 375 (by decide +kernel) (by decide +kernel)), (tbl_in 1 (by decide +kernel) (by decide +kernel)), ⟨by decide +kernel, by decide +kernel⟩, by decide +kernel⟩
theorem im_X8_hasRunning : Cond.instanceMethod yX8_hasRunning ∈ TBL := (tbl_in 374 (by decide +kernel) (by decide +kernel))
theorem se_X8_hasRunning : Cond.selects RX8 yX8_hasRunning yX8_hasRunning ∈ TBL := sel_in (q := (yX8_hasRunning, 10)) 7 (by decide +kernel) (by decide +kernel)
theorem ml_X8_136 : ML RX8 136 yX8_hasRunning := Or.inl (tbl_in 372 (by decide +kernel) (by decide +kernel))
theorem mc_X8_isBarred : MC yX8_isBarred mi_X8_isBarred 2 := ⟨(tbl_in 385 (by decide +kernel) (by decide +kernel)), (tbl_in 1 (by decide +kernel) (by decide +kernel)), ⟨by decide +kernel, by decide +kernel⟩, by decide +kernel⟩
theorem im_X8_isBarred : Cond.instanceMethod yX8_isBarred ∈ TBL := (tbl_in 384 (by decide +kernel) (by decide +kernel))
theorem se_X8_isBarred : Cond.selects RX8 yX8_isBarred yX8_isBarred ∈ TBL := sel_in (q := (yX8_isBarred, 10)) 9 (by decide +kernel) (by decide +kernel)
theorem ml_X8_140 : ML RX8 140 yX8_isBarred := Or.inl (tbl_in 382 (by decide +kernel) (by decide +kernel))
theorem fl_X8_143 : LF RX8 143 2 4 := ⟨_, "PanelHouse$Feature", rfl, by decide, Or.inl rfl, Or.inr ⟨"PanelHouse", (nst_in 213 (by decide +kernel) (by decide +kernel))⟩⟩
theorem ln_X8_118 : LN RX8 118 1 11 := ⟨_, rfl, rfl, (tbl_in 376 (by decide +kernel) (by decide +kernel)), (tbl_in 380 (by decide +kernel) (by decide +kernel)), (tbl_in 23 (by decide +kernel) (by decide +kernel))⟩
theorem mc_X0_init : MC yX0_init mi_X0_init 3 := ⟨(tbl_in 392 (by decide +kernel) (by decide +kernel)), (tbl_in 23 (by decide +kernel) (by decide +kernel)), ⟨by decide +kernel, by decide +kernel⟩, by decide +kernel⟩
theorem im_X0_init : Cond.instanceMethod yX0_init ∈ TBL := (tbl_in 391 (by decide +kernel) (by decide +kernel))
theorem ml_X8_147 : ML RX8 147 yX0_init := Or.inr ⟨"PanelHouse", (nst_in 390 (by decide +kernel) (by decide +kernel))⟩
theorem mc_X8_contractAt : MC yX8_contractAt mi_X8_contractAt 1 := ⟨(tbl_in 443 (by decide +kernel) (by decide +kernel)), (tbl_in 1 (by decide +kernel) (by decide +kernel)), ⟨by decide +kernel, by decide +kernel⟩, by decide +kernel⟩
theorem im_X8_contractAt : Cond.instanceMethod yX8_contractAt ∈ TBL := (tbl_in 442 (by decide +kernel) (by decide +kernel))
theorem se_X8_contractAt : Cond.selects RX8 yX8_contractAt yX8_contractAt ∈ TBL := sel_in (q := (yX8_contractAt, 10)) 11 (by decide +kernel) (by decide +kernel)
theorem ml_X8_150 : ML RX8 150 yX8_contractAt := Or.inl (tbl_in 440 (by decide +kernel) (by decide +kernel))
theorem fl_X8_154 : LF RX8 154 1 3 := ⟨_, "PanelHouse$Contract", rfl, by decide, Or.inl rfl, Or.inr ⟨"PanelHouse", (nst_in 401 (by decide +kernel) (by decide +kernel))⟩⟩
theorem fw_X8_154 (nm : String) : FW RX8 nm 154 1 3 := fun r hr => by cases hr; exact Or.inl rfl
theorem fl_X8_157 : LF RX8 157 2 5 := ⟨_, "PanelHouse$Feature", rfl, by decide, Or.inl rfl, Or.inr ⟨"PanelHouse", (nst_in 215 (by decide +kernel) (by decide +kernel))⟩⟩
theorem fw_X8_157 (nm : String) : FW RX8 nm 157 2 5 := fun r hr => by cases hr; exact Or.inl rfl
theorem fw_X8_143 (nm : String) : FW RX8 nm 143 2 4 := fun r hr => by cases hr; exact Or.inl rfl
theorem fl_X8_160 : LF RX8 160 1 4 := ⟨_, "PanelHouse$Contract", rfl, by decide, Or.inl rfl, Or.inr ⟨"PanelHouse", (nst_in 403 (by decide +kernel) (by decide +kernel))⟩⟩
theorem fw_X8_160 (nm : String) : FW RX8 nm 160 1 4 := fun r hr => by cases hr; exact Or.inl rfl
theorem mc_X0_sendAgain : MC yX0_sendAgain mi_X0_sendAgain 0 := ⟨(tbl_in 463 (by decide +kernel) (by decide +kernel)), (tbl_in 23 (by decide +kernel) (by decide +kernel)), ⟨by decide +kernel, by decide +kernel⟩, by decide +kernel⟩
theorem im_X0_sendAgain : Cond.instanceMethod yX0_sendAgain ∈ TBL := (tbl_in 462 (by decide +kernel) (by decide +kernel))
theorem se_X0_sendAgain : Cond.selects RX0 yX0_sendAgain yX0_sendAgain ∈ TBL := sel_in (q := (yX0_sendAgain, 11)) 12 (by decide +kernel) (by decide +kernel)
theorem ml_X8_163 : ML RX8 163 yX0_sendAgain := Or.inr ⟨"PanelHouse", (nst_in 460 (by decide +kernel) (by decide +kernel))⟩
theorem mc_X2_soldIn : MC yX2_soldIn mi_X2_soldIn 1 := ⟨(tbl_in 497 (by decide +kernel) (by decide +kernel)), (tbl_in 16 (by decide +kernel) (by decide +kernel)), ⟨by decide +kernel, by decide +kernel⟩, by decide +kernel⟩
theorem im_X2_soldIn : Cond.instanceMethod yX2_soldIn ∈ TBL := (tbl_in 496 (by decide +kernel) (by decide +kernel))
theorem se_X2_soldIn : Cond.selects RX2 yX2_soldIn yX2_soldIn ∈ TBL := sel_in (q := (yX2_soldIn, 4)) 19 (by decide +kernel) (by decide +kernel)
theorem ml_X8_107 : ML RX8 107 yX2_soldIn := Or.inr ⟨"PanelHouse", (nst_in 494 (by decide +kernel) (by decide +kernel))⟩
theorem mc_X8_reckon : MC yX8_reckon mi_X8_reckon 3 := ⟨(tbl_in 502 (by decide +kernel) (by decide +kernel)), (tbl_in 1 (by decide +kernel) (by decide +kernel)), ⟨by decide +kernel, by decide +kernel⟩, by decide +kernel⟩
theorem im_X8_reckon : Cond.instanceMethod yX8_reckon ∈ TBL := (tbl_in 501 (by decide +kernel) (by decide +kernel))
theorem se_X8_reckon : Cond.selects RX8 yX8_reckon yX8_reckon ∈ TBL := sel_in (q := (yX8_reckon, 10)) 20 (by decide +kernel) (by decide +kernel)
theorem ml_X8_124 : ML RX8 124 yX8_reckon := Or.inl (tbl_in 499 (by decide +kernel) (by decide +kernel))
theorem mc_X0_addBill : MC yX0_addBill mi_X0_addBill 1 := ⟨(tbl_in 540 (by decide +kernel) (by decide +kernel)), (tbl_in 23 (by decide +kernel) (by decide +kernel)), ⟨by decide +kernel, by decide +kernel⟩, by decide +kernel⟩
theorem im_X0_addBill : Cond.instanceMethod yX0_addBill ∈ TBL := (tbl_in 539 (by decide +kernel) (by decide +kernel))
theorem se_X0_addBill : Cond.selects RX0 yX0_addBill yX0_addBill ∈ TBL := sel_in (q := (yX0_addBill, 11)) 28 (by decide +kernel) (by decide +kernel)
theorem ml_X8_128 : ML RX8 128 yX0_addBill := Or.inr ⟨"PanelHouse", (nst_in 537 (by decide +kernel) (by decide +kernel))⟩
theorem mc_X1_draw : MC yX1_draw mi_X1_draw 1 := ⟨(tbl_in 476 (by decide +kernel) (by decide +kernel)), (tbl_in 11 (by decide +kernel) (by decide +kernel)), ⟨by decide +kernel, by decide +kernel⟩, by decide +kernel⟩
theorem im_X1_draw : Cond.instanceMethod yX1_draw ∈ TBL := (tbl_in 475 (by decide +kernel) (by decide +kernel))
theorem se_X1_draw : Cond.selects RX1 yX1_draw yX1_draw ∈ TBL := sel_in (q := (yX1_draw, 9)) 14 (by decide +kernel) (by decide +kernel)
theorem ml_X8_235 : ML RX8 235 yX1_draw := Or.inr ⟨"PanelHouse", (nst_in 473 (by decide +kernel) (by decide +kernel))⟩
theorem mc_X8_endMonth : MC yX8_endMonth mi_X8_endMonth 1 := ⟨(tbl_in 493 (by decide +kernel) (by decide +kernel)), (tbl_in 1 (by decide +kernel) (by decide +kernel)), ⟨by decide +kernel, by decide +kernel⟩, by decide +kernel⟩
theorem im_X8_endMonth : Cond.instanceMethod yX8_endMonth ∈ TBL := (tbl_in 492 (by decide +kernel) (by decide +kernel))
theorem se_X8_endMonth : Cond.selects RX8 yX8_endMonth yX8_endMonth ∈ TBL := sel_in (q := (yX8_endMonth, 10)) 18 (by decide +kernel) (by decide +kernel)
theorem ml_X8_244 : ML RX8 244 yX8_endMonth := Or.inl (tbl_in 490 (by decide +kernel) (by decide +kernel))
theorem mc_X0_receive : MC yX0_receive mi_X0_receive 1 := ⟨(tbl_in 480 (by decide +kernel) (by decide +kernel)), (tbl_in 23 (by decide +kernel) (by decide +kernel)), ⟨by decide +kernel, by decide +kernel⟩, by decide +kernel⟩
theorem im_X0_receive : Cond.instanceMethod yX0_receive ∈ TBL := (tbl_in 479 (by decide +kernel) (by decide +kernel))
theorem se_X0_receive : Cond.selects RX0 yX0_receive yX0_receive ∈ TBL := sel_in (q := (yX0_receive, 11)) 15 (by decide +kernel) (by decide +kernel)
theorem ml_X8_238 : ML RX8 238 yX0_receive := Or.inr ⟨"PanelHouse", (nst_in 477 (by decide +kernel) (by decide +kernel))⟩
theorem mc_X0_print : MC yX0_print mi_X0_print 1 := ⟨(tbl_in 484 (by decide +kernel) (by decide +kernel)), (tbl_in 23 (by decide +kernel) (by decide +kernel)), ⟨by decide +kernel, by decide +kernel⟩, by decide +kernel⟩
theorem im_X0_print : Cond.instanceMethod yX0_print ∈ TBL := (tbl_in 483 (by decide +kernel) (by decide +kernel))
theorem se_X0_print : Cond.selects RX0 yX0_print yX0_print ∈ TBL := sel_in (q := (yX0_print, 11)) 16 (by decide +kernel) (by decide +kernel)
theorem ml_X8_241 : ML RX8 241 yX0_print := Or.inr ⟨"PanelHouse", (nst_in 481 (by decide +kernel) (by decide +kernel))⟩
theorem mc_X8_passWeek : MC yX8_passWeek mi_X8_passWeek 0 := ⟨(tbl_in 472 (by decide +kernel) (by decide +kernel)), (tbl_in 1 (by decide +kernel) (by decide +kernel)), ⟨by decide +kernel, by decide +kernel⟩, by decide +kernel⟩
theorem im_X8_passWeek : Cond.instanceMethod yX8_passWeek ∈ TBL := (tbl_in 471 (by decide +kernel) (by decide +kernel))
theorem se_X8_passWeek : Cond.selects RX8 yX8_passWeek yX8_passWeek ∈ TBL := sel_in (q := (yX8_passWeek, 10)) 13 (by decide +kernel) (by decide +kernel)
theorem ml_X8_166 : ML RX8 166 yX8_passWeek := Or.inl (tbl_in 469 (by decide +kernel) (by decide +kernel))
theorem mc_X5_addBytes : MC yX5_addBytes mi_X5_addBytes 1 := ⟨(tbl_in 548 (by decide +kernel) (by decide +kernel)), (tbl_in 5 (by decide +kernel) (by decide +kernel)), ⟨by decide +kernel, by decide +kernel⟩, by decide +kernel⟩
theorem im_X5_addBytes : Cond.instanceMethod yX5_addBytes ∈ TBL := (tbl_in 547 (by decide +kernel) (by decide +kernel))
theorem se_X5_addBytes : Cond.selects RX5 yX5_addBytes yX5_addBytes ∈ TBL := sel_in (q := (yX5_addBytes, 2)) 29 (by decide +kernel) (by decide +kernel)
theorem ml_X8_169 : ML RX8 169 yX5_addBytes := Or.inr ⟨"PanelHouse", (nst_in 545 (by decide +kernel) (by decide +kernel))⟩
theorem fl_X8_173 : LF RX8 173 6 1 := ⟨_, "PanelHouse$Tape", rfl, by decide, Or.inl rfl, Or.inr ⟨"PanelHouse", (nst_in 70 (by decide +kernel) (by decide +kernel))⟩⟩
theorem fl_X8_212 : LF RX8 212 2 6 := ⟨_, "PanelHouse$Feature", rfl, by decide, Or.inl rfl, Or.inr ⟨"PanelHouse", (nst_in 218 (by decide +kernel) (by decide +kernel))⟩⟩
theorem mc_X1_coinsOf : MC yX1_coinsOf mi_X1_coinsOf 1 := ⟨(tbl_in 726 (by decide +kernel) (by decide +kernel)), (tbl_in 11 (by decide +kernel) (by decide +kernel)), ⟨by decide +kernel, by decide +kernel⟩, by decide +kernel⟩
theorem im_X1_coinsOf : Cond.instanceMethod yX1_coinsOf ∈ TBL := (tbl_in 725 (by decide +kernel) (by decide +kernel))
theorem se_X1_coinsOf : Cond.selects RX1 yX1_coinsOf yX1_coinsOf ∈ TBL := sel_in (q := (yX1_coinsOf, 9)) 49 (by decide +kernel) (by decide +kernel)
theorem ml_X8_218 : ML RX8 218 yX1_coinsOf := Or.inr ⟨"PanelHouse", (nst_in 723 (by decide +kernel) (by decide +kernel))⟩
theorem mc_X8_runningContracts : MC yX8_runningContracts mi_X8_runningContracts 0 := ⟨(tbl_in 759 (by decide +kernel) (by decide +kernel)), (tbl_in 1 (by decide +kernel) (by decide +kernel)), ⟨by decide +kernel, by decide +kernel⟩, by decide +kernel⟩
theorem im_X8_runningContracts : Cond.instanceMethod yX8_runningContracts ∈ TBL := (tbl_in 758 (by decide +kernel) (by decide +kernel))
theorem se_X8_runningContracts : Cond.selects RX8 yX8_runningContracts yX8_runningContracts ∈ TBL := sel_in (q := (yX8_runningContracts, 10)) 55 (by decide +kernel) (by decide +kernel)
theorem ml_X8_221 : ML RX8 221 yX8_runningContracts := Or.inl (tbl_in 756 (by decide +kernel) (by decide +kernel))
theorem fl_X8_224 : LF RX8 224 4 1 := ⟨_, "PanelHouse$RateText", rfl, by decide, Or.inl rfl, Or.inr ⟨"PanelHouse", (nst_in 151 (by decide +kernel) (by decide +kernel))⟩⟩
theorem fl_X9_1 : LF RX9 1 10 0 := ⟨_, "PanelHouseModel", rfl, by decide, Or.inl rfl, Or.inl (tbl_in 885 (by decide +kernel) (by decide +kernel))⟩
theorem fl_X9_11 : LF RX9 11 10 2 := ⟨_, "PanelHouseModel", rfl, by decide, Or.inl rfl, Or.inl (tbl_in 887 (by decide +kernel) (by decide +kernel))⟩
theorem fl_X9_14 : LF RX9 14 10 1 := ⟨_, "PanelHouseModel", rfl, by decide, Or.inl rfl, Or.inl (tbl_in 886 (by decide +kernel) (by decide +kernel))⟩
theorem fw_X9_11 (nm : String) : FW RX9 nm 11 10 2 := fun r hr => by cases hr; exact Or.inl rfl
theorem fw_X9_1 (nm : String) : FW RX9 nm 1 10 0 := fun r hr => by cases hr; exact Or.inl rfl
theorem mc_X9_lay : MC yX9_lay mi_X9_lay 1 := ⟨(tbl_in 871 (by decide +kernel) (by decide +kernel)), (tbl_in 10 (by decide +kernel) (by decide +kernel)), ⟨by decide +kernel, by decide +kernel⟩, by decide +kernel⟩
theorem im_X9_lay : Cond.instanceMethod yX9_lay ∈ TBL := (tbl_in 869 (by decide +kernel) (by decide +kernel))
theorem se_X9_lay : Cond.selects RX9 yX9_lay yX9_lay ∈ TBL := sel_in (q := (yX9_lay, 54)) 61 (by decide +kernel) (by decide +kernel)
theorem ml_X9_7 : ML RX9 7 yX9_lay := Or.inl (tbl_in 867 (by decide +kernel) (by decide +kernel))
theorem ob_X9_18 : Cond.methodLink RX9 18 Lib.objectInit ∈ TBL := (tbl_in 876 (by decide +kernel) (by decide +kernel))
theorem fwi_X9_14 : FW RX9 "<init>" 14 10 1 := fun r hr => by cases hr; exact Or.inr ⟨rfl, rfl, rfl, (tbl_in 886 (by decide +kernel) (by decide +kernel))⟩
theorem fl_X9_24 : LF RX9 24 10 4 := ⟨_, "PanelHouseModel", rfl, by decide, Or.inl rfl, Or.inl (tbl_in 889 (by decide +kernel) (by decide +kernel))⟩
theorem fwi_X9_24 : FW RX9 "<init>" 24 10 4 := fun r hr => by cases hr; exact Or.inr ⟨rfl, rfl, rfl, (tbl_in 889 (by decide +kernel) (by decide +kernel))⟩
theorem fl_X9_27 : LF RX9 27 10 5 := ⟨_, "PanelHouseModel", rfl, by decide, Or.inl rfl, Or.inl (tbl_in 890 (by decide +kernel) (by decide +kernel))⟩
theorem fwi_X9_27 : FW RX9 "<init>" 27 10 5 := fun r hr => by cases hr; exact Or.inr ⟨rfl, rfl, rfl, (tbl_in 890 (by decide +kernel) (by decide +kernel))⟩
theorem ac_204 : Cond.arrayClass (tyK 204) ∈ TBL := (tbl_in 1048 (by decide +kernel) (by decide +kernel))
theorem fl_X9_30 : LF RX9 30 10 6 := ⟨_, "PanelHouseModel", rfl, by decide, Or.inl rfl, Or.inl (tbl_in 891 (by decide +kernel) (by decide +kernel))⟩
theorem fwi_X9_30 : FW RX9 "<init>" 30 10 6 := fun r hr => by cases hr; exact Or.inr ⟨rfl, rfl, rfl, (tbl_in 891 (by decide +kernel) (by decide +kernel))⟩
theorem kc_X9_34 : Cond.constantLong RX9 34 (913868) ∈ TBL := (tbl_in 877 (by decide +kernel) (by decide +kernel))
theorem kc_X9_36 : Cond.constantLong RX9 36 (1176170) ∈ TBL := (tbl_in 878 (by decide +kernel) (by decide +kernel))
theorem kc_X9_38 : Cond.constantLong RX9 38 (1891) ∈ TBL := (tbl_in 879 (by decide +kernel) (by decide +kernel))
theorem kc_X9_40 : Cond.constantLong RX9 40 (570026) ∈ TBL := (tbl_in 880 (by decide +kernel) (by decide +kernel))
theorem kc_X9_42 : Cond.constantLong RX9 42 (71049021893761) ∈ TBL := (tbl_in 881 (by decide +kernel) (by decide +kernel))
theorem kc_X9_44 : Cond.constantLong RX9 44 (42317417930) ∈ TBL := (tbl_in 882 (by decide +kernel) (by decide +kernel))
theorem kc_X9_46 : Cond.constantLong RX9 46 (25143802) ∈ TBL := (tbl_in 883 (by decide +kernel) (by decide +kernel))
theorem kc_X9_48 : Cond.constantLong RX9 48 (43366239) ∈ TBL := (tbl_in 884 (by decide +kernel) (by decide +kernel))
theorem fl_X9_50 : LF RX9 50 10 9 := ⟨_, "PanelHouseModel", rfl, by decide, Or.inl rfl, Or.inl (tbl_in 894 (by decide +kernel) (by decide +kernel))⟩
theorem fwi_X9_50 : FW RX9 "<init>" 50 10 9 := fun r hr => by cases hr; exact Or.inr ⟨rfl, rfl, rfl, (tbl_in 894 (by decide +kernel) (by decide +kernel))⟩
theorem fl_X9_53 : LF RX9 53 10 12 := ⟨_, "PanelHouseModel", rfl, by decide, Or.inl rfl, Or.inl (tbl_in 897 (by decide +kernel) (by decide +kernel))⟩
theorem fwi_X9_53 : FW RX9 "<init>" 53 10 12 := fun r hr => by cases hr; exact Or.inr ⟨rfl, rfl, rfl, (tbl_in 897 (by decide +kernel) (by decide +kernel))⟩
theorem fl_X9_56 : LF RX9 56 10 13 := ⟨_, "PanelHouseModel", rfl, by decide, Or.inl rfl, Or.inl (tbl_in 898 (by decide +kernel) (by decide +kernel))⟩
theorem fwi_X9_56 : FW RX9 "<init>" 56 10 13 := fun r hr => by cases hr; exact Or.inr ⟨rfl, rfl, rfl, (tbl_in 898 (by decide +kernel) (by decide +kernel))⟩
theorem fl_X9_59 : LF RX9 59 10 14 := ⟨_, "PanelHouseModel", rfl, by decide, Or.inl rfl, Or.inl (tbl_in 899 (by decide +kernel) (by decide +kernel))⟩
theorem fwi_X9_59 : FW RX9 "<init>" 59 10 14 := fun r hr => by cases hr; exact Or.inr ⟨rfl, rfl, rfl, (tbl_in 899 (by decide +kernel) (by decide +kernel))⟩
theorem fl_X9_62 : LF RX9 62 10 15 := ⟨_, "PanelHouseModel", rfl, by decide, Or.inl rfl, Or.inl (tbl_in 900 (by decide +kernel) (by decide +kernel))⟩
theorem fwi_X9_62 : FW RX9 "<init>" 62 10 15 := fun r hr => by cases hr; exact Or.inr ⟨rfl, rfl, rfl, (tbl_in 900 (by decide +kernel) (by decide +kernel))⟩
theorem fl_X9_65 : LF RX9 65 10 16 := ⟨_, "PanelHouseModel", rfl, by decide, Or.inl rfl, Or.inl (tbl_in 901 (by decide +kernel) (by decide +kernel))⟩
theorem fwi_X9_65 : FW RX9 "<init>" 65 10 16 := fun r hr => by cases hr; exact Or.inr ⟨rfl, rfl, rfl, (tbl_in 901 (by decide +kernel) (by decide +kernel))⟩
theorem fl_X9_68 : LF RX9 68 10 19 := ⟨_, "PanelHouseModel", rfl, by decide, Or.inl rfl, Or.inl (tbl_in 904 (by decide +kernel) (by decide +kernel))⟩
theorem fwi_X9_68 : FW RX9 "<init>" 68 10 19 := fun r hr => by cases hr; exact Or.inr ⟨rfl, rfl, rfl, (tbl_in 904 (by decide +kernel) (by decide +kernel))⟩
theorem fl_X9_71 : LF RX9 71 10 20 := ⟨_, "PanelHouseModel", rfl, by decide, Or.inl rfl, Or.inl (tbl_in 905 (by decide +kernel) (by decide +kernel))⟩
theorem fwi_X9_71 : FW RX9 "<init>" 71 10 20 := fun r hr => by cases hr; exact Or.inr ⟨rfl, rfl, rfl, (tbl_in 905 (by decide +kernel) (by decide +kernel))⟩
theorem fl_X9_74 : LF RX9 74 10 21 := ⟨_, "PanelHouseModel", rfl, by decide, Or.inl rfl, Or.inl (tbl_in 906 (by decide +kernel) (by decide +kernel))⟩
theorem fwi_X9_74 : FW RX9 "<init>" 74 10 21 := fun r hr => by cases hr; exact Or.inr ⟨rfl, rfl, rfl, (tbl_in 906 (by decide +kernel) (by decide +kernel))⟩
theorem fl_X9_77 : LF RX9 77 10 22 := ⟨_, "PanelHouseModel", rfl, by decide, Or.inl rfl, Or.inl (tbl_in 907 (by decide +kernel) (by decide +kernel))⟩
theorem fwi_X9_77 : FW RX9 "<init>" 77 10 22 := fun r hr => by cases hr; exact Or.inr ⟨rfl, rfl, rfl, (tbl_in 907 (by decide +kernel) (by decide +kernel))⟩
theorem fl_X9_80 : LF RX9 80 10 23 := ⟨_, "PanelHouseModel", rfl, by decide, Or.inl rfl, Or.inl (tbl_in 908 (by decide +kernel) (by decide +kernel))⟩
theorem fwi_X9_80 : FW RX9 "<init>" 80 10 23 := fun r hr => by cases hr; exact Or.inr ⟨rfl, rfl, rfl, (tbl_in 908 (by decide +kernel) (by decide +kernel))⟩
theorem fl_X9_83 : LF RX9 83 10 26 := ⟨_, "PanelHouseModel", rfl, by decide, Or.inl rfl, Or.inl (tbl_in 911 (by decide +kernel) (by decide +kernel))⟩
theorem fwi_X9_83 : FW RX9 "<init>" 83 10 26 := fun r hr => by cases hr; exact Or.inr ⟨rfl, rfl, rfl, (tbl_in 911 (by decide +kernel) (by decide +kernel))⟩
theorem fl_X9_86 : LF RX9 86 10 27 := ⟨_, "PanelHouseModel", rfl, by decide, Or.inl rfl, Or.inl (tbl_in 912 (by decide +kernel) (by decide +kernel))⟩
theorem fwi_X9_86 : FW RX9 "<init>" 86 10 27 := fun r hr => by cases hr; exact Or.inr ⟨rfl, rfl, rfl, (tbl_in 912 (by decide +kernel) (by decide +kernel))⟩
theorem fl_X9_89 : LF RX9 89 10 28 := ⟨_, "PanelHouseModel", rfl, by decide, Or.inl rfl, Or.inl (tbl_in 913 (by decide +kernel) (by decide +kernel))⟩
theorem fwi_X9_89 : FW RX9 "<init>" 89 10 28 := fun r hr => by cases hr; exact Or.inr ⟨rfl, rfl, rfl, (tbl_in 913 (by decide +kernel) (by decide +kernel))⟩
theorem fl_X9_92 : LF RX9 92 10 29 := ⟨_, "PanelHouseModel", rfl, by decide, Or.inl rfl, Or.inl (tbl_in 914 (by decide +kernel) (by decide +kernel))⟩
theorem fwi_X9_92 : FW RX9 "<init>" 92 10 29 := fun r hr => by cases hr; exact Or.inr ⟨rfl, rfl, rfl, (tbl_in 914 (by decide +kernel) (by decide +kernel))⟩
theorem fl_X9_96 : LF RX9 96 10 30 := ⟨_, "PanelHouseModel", rfl, by decide, Or.inl rfl, Or.inl (tbl_in 915 (by decide +kernel) (by decide +kernel))⟩
theorem fwi_X9_96 : FW RX9 "<init>" 96 10 30 := fun r hr => by cases hr; exact Or.inr ⟨rfl, rfl, rfl, (tbl_in 915 (by decide +kernel) (by decide +kernel))⟩
theorem fl_X9_99 : LF RX9 99 10 31 := ⟨_, "PanelHouseModel", rfl, by decide, Or.inl rfl, Or.inl (tbl_in 916 (by decide +kernel) (by decide +kernel))⟩
theorem fwi_X9_99 : FW RX9 "<init>" 99 10 31 := fun r hr => by cases hr; exact Or.inr ⟨rfl, rfl, rfl, (tbl_in 916 (by decide +kernel) (by decide +kernel))⟩
theorem fl_X9_102 : LF RX9 102 10 32 := ⟨_, "PanelHouseModel", rfl, by decide, Or.inl rfl, Or.inl (tbl_in 917 (by decide +kernel) (by decide +kernel))⟩
theorem fwi_X9_102 : FW RX9 "<init>" 102 10 32 := fun r hr => by cases hr; exact Or.inr ⟨rfl, rfl, rfl, (tbl_in 917 (by decide +kernel) (by decide +kernel))⟩
theorem fl_X9_105 : LF RX9 105 10 33 := ⟨_, "PanelHouseModel", rfl, by decide, Or.inl rfl, Or.inl (tbl_in 918 (by decide +kernel) (by decide +kernel))⟩
theorem fwi_X9_105 : FW RX9 "<init>" 105 10 33 := fun r hr => by cases hr; exact Or.inr ⟨rfl, rfl, rfl, (tbl_in 918 (by decide +kernel) (by decide +kernel))⟩
theorem fl_X9_108 : LF RX9 108 10 35 := ⟨_, "PanelHouseModel", rfl, by decide, Or.inl rfl, Or.inl (tbl_in 920 (by decide +kernel) (by decide +kernel))⟩
theorem fwi_X9_108 : FW RX9 "<init>" 108 10 35 := fun r hr => by cases hr; exact Or.inr ⟨rfl, rfl, rfl, (tbl_in 920 (by decide +kernel) (by decide +kernel))⟩
theorem fl_X9_111 : LF RX9 111 10 36 := ⟨_, "PanelHouseModel", rfl, by decide, Or.inl rfl, Or.inl (tbl_in 921 (by decide +kernel) (by decide +kernel))⟩
theorem fwi_X9_111 : FW RX9 "<init>" 111 10 36 := fun r hr => by cases hr; exact Or.inr ⟨rfl, rfl, rfl, (tbl_in 921 (by decide +kernel) (by decide +kernel))⟩
theorem fl_X9_114 : LF RX9 114 10 37 := ⟨_, "PanelHouseModel", rfl, by decide, Or.inl rfl, Or.inl (tbl_in 922 (by decide +kernel) (by decide +kernel))⟩
theorem fwi_X9_114 : FW RX9 "<init>" 114 10 37 := fun r hr => by cases hr; exact Or.inr ⟨rfl, rfl, rfl, (tbl_in 922 (by decide +kernel) (by decide +kernel))⟩
theorem fl_X9_117 : LF RX9 117 10 38 := ⟨_, "PanelHouseModel", rfl, by decide, Or.inl rfl, Or.inl (tbl_in 923 (by decide +kernel) (by decide +kernel))⟩
theorem fwi_X9_117 : FW RX9 "<init>" 117 10 38 := fun r hr => by cases hr; exact Or.inr ⟨rfl, rfl, rfl, (tbl_in 923 (by decide +kernel) (by decide +kernel))⟩
theorem fl_X9_120 : LF RX9 120 10 40 := ⟨_, "PanelHouseModel", rfl, by decide, Or.inl rfl, Or.inl (tbl_in 925 (by decide +kernel) (by decide +kernel))⟩
theorem fwi_X9_120 : FW RX9 "<init>" 120 10 40 := fun r hr => by cases hr; exact Or.inr ⟨rfl, rfl, rfl, (tbl_in 925 (by decide +kernel) (by decide +kernel))⟩
theorem fl_X9_123 : LF RX9 123 10 41 := ⟨_, "PanelHouseModel", rfl, by decide, Or.inl rfl, Or.inl (tbl_in 926 (by decide +kernel) (by decide +kernel))⟩
theorem fwi_X9_123 : FW RX9 "<init>" 123 10 41 := fun r hr => by cases hr; exact Or.inr ⟨rfl, rfl, rfl, (tbl_in 926 (by decide +kernel) (by decide +kernel))⟩
theorem fl_X9_126 : LF RX9 126 10 42 := ⟨_, "PanelHouseModel", rfl, by decide, Or.inl rfl, Or.inl (tbl_in 927 (by decide +kernel) (by decide +kernel))⟩
theorem fwi_X9_126 : FW RX9 "<init>" 126 10 42 := fun r hr => by cases hr; exact Or.inr ⟨rfl, rfl, rfl, (tbl_in 927 (by decide +kernel) (by decide +kernel))⟩
theorem fl_X9_129 : LF RX9 129 10 43 := ⟨_, "PanelHouseModel", rfl, by decide, Or.inl rfl, Or.inl (tbl_in 928 (by decide +kernel) (by decide +kernel))⟩
theorem fwi_X9_129 : FW RX9 "<init>" 129 10 43 := fun r hr => by cases hr; exact Or.inr ⟨rfl, rfl, rfl, (tbl_in 928 (by decide +kernel) (by decide +kernel))⟩
theorem fl_X9_132 : LF RX9 132 10 44 := ⟨_, "PanelHouseModel", rfl, by decide, Or.inl rfl, Or.inl (tbl_in 929 (by decide +kernel) (by decide +kernel))⟩
theorem fwi_X9_132 : FW RX9 "<init>" 132 10 44 := fun r hr => by cases hr; exact Or.inr ⟨rfl, rfl, rfl, (tbl_in 929 (by decide +kernel) (by decide +kernel))⟩
theorem fl_X9_135 : LF RX9 135 10 45 := ⟨_, "PanelHouseModel", rfl, by decide, Or.inl rfl, Or.inl (tbl_in 930 (by decide +kernel) (by decide +kernel))⟩
theorem fwi_X9_135 : FW RX9 "<init>" 135 10 45 := fun r hr => by cases hr; exact Or.inr ⟨rfl, rfl, rfl, (tbl_in 930 (by decide +kernel) (by decide +kernel))⟩
theorem fl_X9_138 : LF RX9 138 10 46 := ⟨_, "PanelHouseModel", rfl, by decide, Or.inl rfl, Or.inl (tbl_in 931 (by decide +kernel) (by decide +kernel))⟩
theorem fwi_X9_138 : FW RX9 "<init>" 138 10 46 := fun r hr => by cases hr; exact Or.inr ⟨rfl, rfl, rfl, (tbl_in 931 (by decide +kernel) (by decide +kernel))⟩
theorem fl_X9_141 : LF RX9 141 10 47 := ⟨_, "PanelHouseModel", rfl, by decide, Or.inl rfl, Or.inl (tbl_in 932 (by decide +kernel) (by decide +kernel))⟩
theorem fwi_X9_141 : FW RX9 "<init>" 141 10 47 := fun r hr => by cases hr; exact Or.inr ⟨rfl, rfl, rfl, (tbl_in 932 (by decide +kernel) (by decide +kernel))⟩
theorem fl_X9_144 : LF RX9 144 10 48 := ⟨_, "PanelHouseModel", rfl, by decide, Or.inl rfl, Or.inl (tbl_in 933 (by decide +kernel) (by decide +kernel))⟩
theorem fwi_X9_144 : FW RX9 "<init>" 144 10 48 := fun r hr => by cases hr; exact Or.inr ⟨rfl, rfl, rfl, (tbl_in 933 (by decide +kernel) (by decide +kernel))⟩
theorem fl_X9_147 : LF RX9 147 10 49 := ⟨_, "PanelHouseModel", rfl, by decide, Or.inl rfl, Or.inl (tbl_in 934 (by decide +kernel) (by decide +kernel))⟩
theorem fwi_X9_147 : FW RX9 "<init>" 147 10 49 := fun r hr => by cases hr; exact Or.inr ⟨rfl, rfl, rfl, (tbl_in 934 (by decide +kernel) (by decide +kernel))⟩
theorem fl_X9_150 : LF RX9 150 10 50 := ⟨_, "PanelHouseModel", rfl, by decide, Or.inl rfl, Or.inl (tbl_in 935 (by decide +kernel) (by decide +kernel))⟩
theorem fwi_X9_150 : FW RX9 "<init>" 150 10 50 := fun r hr => by cases hr; exact Or.inr ⟨rfl, rfl, rfl, (tbl_in 935 (by decide +kernel) (by decide +kernel))⟩
theorem fl_X9_153 : LF RX9 153 10 51 := ⟨_, "PanelHouseModel", rfl, by decide, Or.inl rfl, Or.inl (tbl_in 936 (by decide +kernel) (by decide +kernel))⟩
theorem fwi_X9_153 : FW RX9 "<init>" 153 10 51 := fun r hr => by cases hr; exact Or.inr ⟨rfl, rfl, rfl, (tbl_in 936 (by decide +kernel) (by decide +kernel))⟩
theorem fl_X9_156 : LF RX9 156 10 52 := ⟨_, "PanelHouseModel", rfl, by decide, Or.inl rfl, Or.inl (tbl_in 937 (by decide +kernel) (by decide +kernel))⟩
theorem fwi_X9_156 : FW RX9 "<init>" 156 10 52 := fun r hr => by cases hr; exact Or.inr ⟨rfl, rfl, rfl, (tbl_in 937 (by decide +kernel) (by decide +kernel))⟩
theorem fl_X9_159 : LF RX9 159 10 53 := ⟨_, "PanelHouseModel", rfl, by decide, Or.inl rfl, Or.inl (tbl_in 938 (by decide +kernel) (by decide +kernel))⟩
theorem fwi_X9_159 : FW RX9 "<init>" 159 10 53 := fun r hr => by cases hr; exact Or.inr ⟨rfl, rfl, rfl, (tbl_in 938 (by decide +kernel) (by decide +kernel))⟩
theorem fl_X9_162 : LF RX9 162 10 11 := ⟨_, "PanelHouseModel", rfl, by decide, Or.inl rfl, Or.inl (tbl_in 896 (by decide +kernel) (by decide +kernel))⟩
theorem fw_X9_162 (nm : String) : FW RX9 nm 162 10 11 := fun r hr => by cases hr; exact Or.inl rfl
theorem mc_X9_isLetter : MC yX9_isLetter mi_X9_isLetter 1 := ⟨(tbl_in 1059 (by decide +kernel) (by decide +kernel)), (tbl_in 10 (by decide +kernel) (by decide +kernel)), ⟨by decide +kernel, by decide +kernel⟩, by decide +kernel⟩
theorem st_X9_isLetter : Cond.static yX9_isLetter ∈ TBL := (tbl_in 1058 (by decide +kernel) (by decide +kernel))
theorem ml_X9_165 : ML RX9 165 yX9_isLetter := Or.inl (tbl_in 1057 (by decide +kernel) (by decide +kernel))
theorem fl_X9_169 : LF RX9 169 10 3 := ⟨_, "PanelHouseModel", rfl, by decide, Or.inl rfl, Or.inl (tbl_in 888 (by decide +kernel) (by decide +kernel))⟩
theorem fw_X9_169 (nm : String) : FW RX9 nm 169 10 3 := fun r hr => by cases hr; exact Or.inl rfl
theorem fl_X9_188 : LF RX9 188 10 7 := ⟨_, "PanelHouseModel", rfl, by decide, Or.inl rfl, Or.inl (tbl_in 892 (by decide +kernel) (by decide +kernel))⟩
theorem fw_X9_188 (nm : String) : FW RX9 nm 188 10 7 := fun r hr => by cases hr; exact Or.inl rfl
theorem fl_X9_191 : LF RX9 191 10 8 := ⟨_, "PanelHouseModel", rfl, by decide, Or.inl rfl, Or.inl (tbl_in 893 (by decide +kernel) (by decide +kernel))⟩
theorem fw_X9_191 (nm : String) : FW RX9 nm 191 10 8 := fun r hr => by cases hr; exact Or.inl rfl
theorem mc_X9_isDigit : MC yX9_isDigit mi_X9_isDigit 1 := ⟨(tbl_in 1066 (by decide +kernel) (by decide +kernel)), (tbl_in 10 (by decide +kernel) (by decide +kernel)), ⟨by decide +kernel, by decide +kernel⟩, by decide +kernel⟩
theorem st_X9_isDigit : Cond.static yX9_isDigit ∈ TBL := (tbl_in 1065 (by decide +kernel) (by decide +kernel))
theorem ml_X9_178 : ML RX9 178 yX9_isDigit := Or.inl (tbl_in 1064 (by decide +kernel) (by decide +kernel))
theorem mc_X9_isSignOf : MC yX9_isSignOf mi_X9_isSignOf 1 := ⟨(tbl_in 1071 (by decide +kernel) (by decide +kernel)), (tbl_in 10 (by decide +kernel) (by decide +kernel)), ⟨by decide +kernel, by decide +kernel⟩, by decide +kernel⟩
theorem st_X9_isSignOf : Cond.static yX9_isSignOf ∈ TBL := (tbl_in 1070 (by decide +kernel) (by decide +kernel))
theorem ml_X9_185 : ML RX9 185 yX9_isSignOf := Or.inl (tbl_in 1069 (by decide +kernel) (by decide +kernel))
theorem kc_X9_172 : Cond.constantLong RX9 172 (37) ∈ TBL := (tbl_in 1060 (by decide +kernel) (by decide +kernel))
theorem mc_X9_rank : MC yX9_rank mi_X9_rank 1 := ⟨(tbl_in 1063 (by decide +kernel) (by decide +kernel)), (tbl_in 10 (by decide +kernel) (by decide +kernel)), ⟨by decide +kernel, by decide +kernel⟩, by decide +kernel⟩
theorem st_X9_rank : Cond.static yX9_rank ∈ TBL := (tbl_in 1062 (by decide +kernel) (by decide +kernel))
theorem ml_X9_174 : ML RX9 174 yX9_rank := Or.inl (tbl_in 1061 (by decide +kernel) (by decide +kernel))
theorem kc_X9_181 : Cond.constantLong RX9 181 (10) ∈ TBL := (tbl_in 1067 (by decide +kernel) (by decide +kernel))
theorem kc_X9_183 : Cond.constantLong RX9 183 (48) ∈ TBL := (tbl_in 1068 (by decide +kernel) (by decide +kernel))
theorem mc_X9_isSign : MC yX9_isSign mi_X9_isSign 1 := ⟨(tbl_in 1108 (by decide +kernel) (by decide +kernel)), (tbl_in 10 (by decide +kernel) (by decide +kernel)), ⟨by decide +kernel, by decide +kernel⟩, by decide +kernel⟩
theorem im_X9_isSign : Cond.instanceMethod yX9_isSign ∈ TBL := (tbl_in 1107 (by decide +kernel) (by decide +kernel))
theorem se_X9_isSign : Cond.selects RX9 yX9_isSign yX9_isSign ∈ TBL := sel_in (q := (yX9_isSign, 54)) 71 (by decide +kernel) (by decide +kernel)
theorem ml_X9_194 : ML RX9 194 yX9_isSign := Or.inl (tbl_in 1105 (by decide +kernel) (by decide +kernel))
theorem mc_X9_wrong : MC yX9_wrong mi_X9_wrong 1 := ⟨(tbl_in 1083 (by decide +kernel) (by decide +kernel)), (tbl_in 10 (by decide +kernel) (by decide +kernel)), ⟨by decide +kernel, by decide +kernel⟩, by decide +kernel⟩
theorem im_X9_wrong : Cond.instanceMethod yX9_wrong ∈ TBL := (tbl_in 1082 (by decide +kernel) (by decide +kernel))
theorem se_X9_wrong : Cond.selects RX9 yX9_wrong yX9_wrong ∈ TBL := sel_in (q := (yX9_wrong, 54)) 65 (by decide +kernel) (by decide +kernel)
theorem ml_X9_197 : ML RX9 197 yX9_wrong := Or.inl (tbl_in 1080 (by decide +kernel) (by decide +kernel))
theorem mc_X9_isWord : MC yX9_isWord mi_X9_isWord 1 := ⟨(tbl_in 1079 (by decide +kernel) (by decide +kernel)), (tbl_in 10 (by decide +kernel) (by decide +kernel)), ⟨by decide +kernel, by decide +kernel⟩, by decide +kernel⟩
theorem im_X9_isWord : Cond.instanceMethod yX9_isWord ∈ TBL := (tbl_in 1078 (by decide +kernel) (by decide +kernel))
theorem se_X9_isWord : Cond.selects RX9 yX9_isWord yX9_isWord ∈ TBL := sel_in (q := (yX9_isWord, 54)) 64 (by decide +kernel) (by decide +kernel)
theorem ml_X9_201 : ML RX9 201 yX9_isWord := Or.inl (tbl_in 1076 (by decide +kernel) (by decide +kernel))
theorem mc_X9_hasWord : MC yX9_hasWord mi_X9_hasWord 1 := ⟨(tbl_in 1092 (by decide +kernel) (by decide +kernel)), (tbl_in 10 (by decide +kernel) (by decide +kernel)), ⟨by decide +kernel, by decide +kernel⟩, by decide +kernel⟩
theorem im_X9_hasWord : Cond.instanceMethod yX9_hasWord ∈ TBL := (tbl_in 1091 (by decide +kernel) (by decide +kernel))
theorem se_X9_hasWord : Cond.selects RX9 yX9_hasWord yX9_hasWord ∈ TBL := sel_in (q := (yX9_hasWord, 54)) 67 (by decide +kernel) (by decide +kernel)
theorem ml_X9_204 : ML RX9 204 yX9_hasWord := Or.inl (tbl_in 1089 (by decide +kernel) (by decide +kernel))
theorem fl_X9_207 : LF RX9 207 10 17 := ⟨_, "PanelHouseModel", rfl, by decide, Or.inl rfl, Or.inl (tbl_in 902 (by decide +kernel) (by decide +kernel))⟩
theorem fw_X9_207 (nm : String) : FW RX9 nm 207 10 17 := fun r hr => by cases hr; exact Or.inl rfl
theorem fl_X9_227 : LF RX9 227 10 18 := ⟨_, "PanelHouseModel", rfl, by decide, Or.inl rfl, Or.inl (tbl_in 903 (by decide +kernel) (by decide +kernel))⟩
theorem mc_X9_partWord : MC yX9_partWord mi_X9_partWord 0 := ⟨(tbl_in 1104 (by decide +kernel) (by decide +kernel)), (tbl_in 10 (by decide +kernel) (by decide +kernel)), ⟨by decide +kernel, by decide +kernel⟩, by decide +kernel⟩
theorem im_X9_partWord : Cond.instanceMethod yX9_partWord ∈ TBL := (tbl_in 1103 (by decide +kernel) (by decide +kernel))
theorem se_X9_partWord : Cond.selects RX9 yX9_partWord yX9_partWord ∈ TBL := sel_in (q := (yX9_partWord, 54)) 70 (by decide +kernel) (by decide +kernel)
theorem ml_X9_246 : ML RX9 246 yX9_partWord := Or.inl (tbl_in 1101 (by decide +kernel) (by decide +kernel))
theorem mc_X9_hasSign : MC yX9_hasSign mi_X9_hasSign 1 := ⟨(tbl_in 1112 (by decide +kernel) (by decide +kernel)), (tbl_in 10 (by decide +kernel) (by decide +kernel)), ⟨by decide +kernel, by decide +kernel⟩, by decide +kernel⟩
theorem im_X9_hasSign : Cond.instanceMethod yX9_hasSign ∈ TBL := (tbl_in 1111 (by decide +kernel) (by decide +kernel))
theorem se_X9_hasSign : Cond.selects RX9 yX9_hasSign yX9_hasSign ∈ TBL := sel_in (q := (yX9_hasSign, 54)) 72 (by decide +kernel) (by decide +kernel)
theorem ml_X9_250 : ML RX9 250 yX9_hasSign := Or.inl (tbl_in 1109 (by decide +kernel) (by decide +kernel))
theorem fw_X9_227 (nm : String) : FW RX9 nm 227 10 18 := fun r hr => by cases hr; exact Or.inl rfl
theorem mc_X9_opens : MC yX9_opens mi_X9_opens 0 := ⟨(tbl_in 1096 (by decide +kernel) (by decide +kernel)), (tbl_in 10 (by decide +kernel) (by decide +kernel)), ⟨by decide +kernel, by decide +kernel⟩, by decide +kernel⟩
theorem im_X9_opens : Cond.instanceMethod yX9_opens ∈ TBL := (tbl_in 1095 (by decide +kernel) (by decide +kernel))
theorem se_X9_opens : Cond.selects RX9 yX9_opens yX9_opens ∈ TBL := sel_in (q := (yX9_opens, 54)) 68 (by decide +kernel) (by decide +kernel)
theorem ml_X9_230 : ML RX9 230 yX9_opens := Or.inl (tbl_in 1093 (by decide +kernel) (by decide +kernel))
theorem mc_X9_emit : MC yX9_emit mi_X9_emit 2 := ⟨(tbl_in 1116 (by decide +kernel) (by decide +kernel)), (tbl_in 10 (by decide +kernel) (by decide +kernel)), ⟨by decide +kernel, by decide +kernel⟩, by decide +kernel⟩
theorem im_X9_emit : Cond.instanceMethod yX9_emit ∈ TBL := (tbl_in 1115 (by decide +kernel) (by decide +kernel))
theorem se_X9_emit : Cond.selects RX9 yX9_emit yX9_emit ∈ TBL := sel_in (q := (yX9_emit, 54)) 73 (by decide +kernel) (by decide +kernel)
theorem ml_X9_239 : ML RX9 239 yX9_emit := Or.inl (tbl_in 1113 (by decide +kernel) (by decide +kernel))
theorem mc_X9_takeSign : MC yX9_takeSign mi_X9_takeSign 1 := ⟨(tbl_in 1124 (by decide +kernel) (by decide +kernel)), (tbl_in 10 (by decide +kernel) (by decide +kernel)), ⟨by decide +kernel, by decide +kernel⟩, by decide +kernel⟩
theorem im_X9_takeSign : Cond.instanceMethod yX9_takeSign ∈ TBL := (tbl_in 1123 (by decide +kernel) (by decide +kernel))
theorem se_X9_takeSign : Cond.selects RX9 yX9_takeSign yX9_takeSign ∈ TBL := sel_in (q := (yX9_takeSign, 54)) 75 (by decide +kernel) (by decide +kernel)
theorem ml_X9_243 : ML RX9 243 yX9_takeSign := Or.inl (tbl_in 1121 (by decide +kernel) (by decide +kernel))
theorem kc_X9_222 : Cond.constantLong RX9 222 (999) ∈ TBL := (tbl_in 1084 (by decide +kernel) (by decide +kernel))
theorem mc_X9_takeWord : MC yX9_takeWord mi_X9_takeWord 1 := ⟨(tbl_in 1088 (by decide +kernel) (by decide +kernel)), (tbl_in 10 (by decide +kernel) (by decide +kernel)), ⟨by decide +kernel, by decide +kernel⟩, by decide +kernel⟩
theorem im_X9_takeWord : Cond.instanceMethod yX9_takeWord ∈ TBL := (tbl_in 1087 (by decide +kernel) (by decide +kernel))
theorem se_X9_takeWord : Cond.selects RX9 yX9_takeWord yX9_takeWord ∈ TBL := sel_in (q := (yX9_takeWord, 54)) 66 (by decide +kernel) (by decide +kernel)
theorem ml_X9_224 : ML RX9 224 yX9_takeWord := Or.inl (tbl_in 1085 (by decide +kernel) (by decide +kernel))
theorem mc_X9_part : MC yX9_part mi_X9_part 0 := ⟨(tbl_in 1100 (by decide +kernel) (by decide +kernel)), (tbl_in 10 (by decide +kernel) (by decide +kernel)), ⟨by decide +kernel, by decide +kernel⟩, by decide +kernel⟩
theorem im_X9_part : Cond.instanceMethod yX9_part ∈ TBL := (tbl_in 1099 (by decide +kernel) (by decide +kernel))
theorem se_X9_part : Cond.selects RX9 yX9_part yX9_part ∈ TBL := sel_in (q := (yX9_part, 54)) 69 (by decide +kernel) (by decide +kernel)
theorem ml_X9_233 : ML RX9 233 yX9_part := Or.inl (tbl_in 1097 (by decide +kernel) (by decide +kernel))
theorem mc_X9_goesOnBehind : MC yX9_goesOnBehind mi_X9_goesOnBehind 0 := ⟨(tbl_in 1120 (by decide +kernel) (by decide +kernel)), (tbl_in 10 (by decide +kernel) (by decide +kernel)), ⟨by decide +kernel, by decide +kernel⟩, by decide +kernel⟩
theorem im_X9_goesOnBehind : Cond.instanceMethod yX9_goesOnBehind ∈ TBL := (tbl_in 1119 (by decide +kernel) (by decide +kernel))
theorem se_X9_goesOnBehind : Cond.selects RX9 yX9_goesOnBehind yX9_goesOnBehind ∈ TBL := sel_in (q := (yX9_goesOnBehind, 54)) 74 (by decide +kernel) (by decide +kernel)
theorem ml_X9_236 : ML RX9 236 yX9_goesOnBehind := Or.inl (tbl_in 1117 (by decide +kernel) (by decide +kernel))
theorem fl_X9_210 : LF RX9 210 10 10 := ⟨_, "PanelHouseModel", rfl, by decide, Or.inl rfl, Or.inl (tbl_in 895 (by decide +kernel) (by decide +kernel))⟩
theorem fw_X9_210 (nm : String) : FW RX9 nm 210 10 10 := fun r hr => by cases hr; exact Or.inl rfl
theorem mc_X9_cutAll : MC yX9_cutAll mi_X9_cutAll 0 := ⟨(tbl_in 1056 (by decide +kernel) (by decide +kernel)), (tbl_in 10 (by decide +kernel) (by decide +kernel)), ⟨by decide +kernel, by decide +kernel⟩, by decide +kernel⟩
theorem im_X9_cutAll : Cond.instanceMethod yX9_cutAll ∈ TBL := (tbl_in 1055 (by decide +kernel) (by decide +kernel))
theorem se_X9_cutAll : Cond.selects RX9 yX9_cutAll yX9_cutAll ∈ TBL := sel_in (q := (yX9_cutAll, 54)) 62 (by decide +kernel) (by decide +kernel)
theorem ml_X9_213 : ML RX9 213 yX9_cutAll := Or.inl (tbl_in 1053 (by decide +kernel) (by decide +kernel))
theorem mc_X9_line : MC yX9_line mi_X9_line 0 := ⟨(tbl_in 1075 (by decide +kernel) (by decide +kernel)), (tbl_in 10 (by decide +kernel) (by decide +kernel)), ⟨by decide +kernel, by decide +kernel⟩, by decide +kernel⟩
theorem im_X9_line : Cond.instanceMethod yX9_line ∈ TBL := (tbl_in 1074 (by decide +kernel) (by decide +kernel))
theorem se_X9_line : Cond.selects RX9 yX9_line yX9_line ∈ TBL := sel_in (q := (yX9_line, 54)) 63 (by decide +kernel) (by decide +kernel)
theorem ml_X9_216 : ML RX9 216 yX9_line := Or.inl (tbl_in 1072 (by decide +kernel) (by decide +kernel))
theorem mc_X9_keeps : MC yX9_keeps mi_X9_keeps 0 := ⟨(tbl_in 1128 (by decide +kernel) (by decide +kernel)), (tbl_in 10 (by decide +kernel) (by decide +kernel)), ⟨by decide +kernel, by decide +kernel⟩, by decide +kernel⟩
theorem im_X9_keeps : Cond.instanceMethod yX9_keeps ∈ TBL := (tbl_in 1127 (by decide +kernel) (by decide +kernel))
theorem se_X9_keeps : Cond.selects RX9 yX9_keeps yX9_keeps ∈ TBL := sel_in (q := (yX9_keeps, 54)) 76 (by decide +kernel) (by decide +kernel)
theorem ml_X9_219 : ML RX9 219 yX9_keeps := Or.inl (tbl_in 1125 (by decide +kernel) (by decide +kernel))
theorem mc_X9_within : MC yX9_within mi_X9_within 3 := ⟨(tbl_in 1135 (by decide +kernel) (by decide +kernel)), (tbl_in 10 (by decide +kernel) (by decide +kernel)), ⟨by decide +kernel, by decide +kernel⟩, by decide +kernel⟩
theorem st_X9_within : Cond.static yX9_within ∈ TBL := (tbl_in 1134 (by decide +kernel) (by decide +kernel))
theorem ml_X9_253 : ML RX9 253 yX9_within := Or.inl (tbl_in 1133 (by decide +kernel) (by decide +kernel))
theorem fl_X9_257 : LF RX9 257 10 25 := ⟨_, "PanelHouseModel", rfl, by decide, Or.inl rfl, Or.inl (tbl_in 910 (by decide +kernel) (by decide +kernel))⟩
theorem fw_X9_257 (nm : String) : FW RX9 nm 257 10 25 := fun r hr => by cases hr; exact Or.inl rfl
theorem kc_X9_260 : Cond.constant RX9 260 (100000) ∈ TBL := (tbl_in 1140 (by decide +kernel) (by decide +kernel))
theorem fl_X9_261 : LF RX9 261 10 34 := ⟨_, "PanelHouseModel", rfl, by decide, Or.inl rfl, Or.inl (tbl_in 919 (by decide +kernel) (by decide +kernel))⟩
theorem fl_X9_264 : LF RX9 264 10 24 := ⟨_, "PanelHouseModel", rfl, by decide, Or.inl rfl, Or.inl (tbl_in 909 (by decide +kernel) (by decide +kernel))⟩
theorem fw_X9_261 (nm : String) : FW RX9 nm 261 10 34 := fun r hr => by cases hr; exact Or.inl rfl
theorem mc_X9_isPaper : MC yX9_isPaper mi_X9_isPaper 1 := ⟨(tbl_in 1148 (by decide +kernel) (by decide +kernel)), (tbl_in 10 (by decide +kernel) (by decide +kernel)), ⟨by decide +kernel, by decide +kernel⟩, by decide +kernel⟩
theorem im_X9_isPaper : Cond.instanceMethod yX9_isPaper ∈ TBL := (tbl_in 1147 (by decide +kernel) (by decide +kernel))
theorem se_X9_isPaper : Cond.selects RX9 yX9_isPaper yX9_isPaper ∈ TBL := sel_in (q := (yX9_isPaper, 54)) 77 (by decide +kernel) (by decide +kernel)
theorem ml_X9_267 : ML RX9 267 yX9_isPaper := Or.inl (tbl_in 1145 (by decide +kernel) (by decide +kernel))
theorem mc_X9_isFeature : MC yX9_isFeature mi_X9_isFeature 1 := ⟨(tbl_in 1160 (by decide +kernel) (by decide +kernel)), (tbl_in 10 (by decide +kernel) (by decide +kernel)), ⟨by decide +kernel, by decide +kernel⟩, by decide +kernel⟩
theorem im_X9_isFeature : Cond.instanceMethod yX9_isFeature ∈ TBL := (tbl_in 1159 (by decide +kernel) (by decide +kernel))
theorem se_X9_isFeature : Cond.selects RX9 yX9_isFeature yX9_isFeature ∈ TBL := sel_in (q := (yX9_isFeature, 54)) 78 (by decide +kernel) (by decide +kernel)
theorem ml_X9_270 : ML RX9 270 yX9_isFeature := Or.inl (tbl_in 1157 (by decide +kernel) (by decide +kernel))
theorem fl_X9_273 : LF RX9 273 10 39 := ⟨_, "PanelHouseModel", rfl, by decide, Or.inl rfl, Or.inl (tbl_in 924 (by decide +kernel) (by decide +kernel))⟩
theorem mc_X9_runsIn : MC yX9_runsIn mi_X9_runsIn 2 := ⟨(tbl_in 1180 (by decide +kernel) (by decide +kernel)), (tbl_in 10 (by decide +kernel) (by decide +kernel)), ⟨by decide +kernel, by decide +kernel⟩, by decide +kernel⟩
theorem im_X9_runsIn : Cond.instanceMethod yX9_runsIn ∈ TBL := (tbl_in 1179 (by decide +kernel) (by decide +kernel))
theorem se_X9_runsIn : Cond.selects RX9 yX9_runsIn yX9_runsIn ∈ TBL := sel_in (q := (yX9_runsIn, 54)) 80 (by decide +kernel) (by decide +kernel)
theorem ml_X9_276 : ML RX9 276 yX9_runsIn := Or.inl (tbl_in 1177 (by decide +kernel) (by decide +kernel))
theorem mc_X9_why : MC yX9_why mi_X9_why 2 := ⟨(tbl_in 1176 (by decide +kernel) (by decide +kernel)), (tbl_in 10 (by decide +kernel) (by decide +kernel)), ⟨by decide +kernel, by decide +kernel⟩, by decide +kernel⟩
theorem im_X9_why : Cond.instanceMethod yX9_why ∈ TBL := (tbl_in 1175 (by decide +kernel) (by decide +kernel))
theorem se_X9_why : Cond.selects RX9 yX9_why yX9_why ∈ TBL := sel_in (q := (yX9_why, 54)) 79 (by decide +kernel) (by decide +kernel)
theorem ml_X9_280 : ML RX9 280 yX9_why := Or.inl (tbl_in 1173 (by decide +kernel) (by decide +kernel))
theorem fw_X9_273 (nm : String) : FW RX9 nm 273 10 39 := fun r hr => by cases hr; exact Or.inl rfl
theorem mc_X9_isContract : MC yX9_isContract mi_X9_isContract 1 := ⟨(tbl_in 1188 (by decide +kernel) (by decide +kernel)), (tbl_in 10 (by decide +kernel) (by decide +kernel)), ⟨by decide +kernel, by decide +kernel⟩, by decide +kernel⟩
theorem im_X9_isContract : Cond.instanceMethod yX9_isContract ∈ TBL := (tbl_in 1187 (by decide +kernel) (by decide +kernel))
theorem se_X9_isContract : Cond.selects RX9 yX9_isContract yX9_isContract ∈ TBL := sel_in (q := (yX9_isContract, 54)) 81 (by decide +kernel) (by decide +kernel)
theorem ml_X9_284 : ML RX9 284 yX9_isContract := Or.inl (tbl_in 1185 (by decide +kernel) (by decide +kernel))
theorem mc_X9_isOfRun : MC yX9_isOfRun mi_X9_isOfRun 2 := ⟨(tbl_in 1204 (by decide +kernel) (by decide +kernel)), (tbl_in 10 (by decide +kernel) (by decide +kernel)), ⟨by decide +kernel, by decide +kernel⟩, by decide +kernel⟩
theorem im_X9_isOfRun : Cond.instanceMethod yX9_isOfRun ∈ TBL := (tbl_in 1203 (by decide +kernel) (by decide +kernel))
theorem se_X9_isOfRun : Cond.selects RX9 yX9_isOfRun yX9_isOfRun ∈ TBL := sel_in (q := (yX9_isOfRun, 54)) 83 (by decide +kernel) (by decide +kernel)
theorem ml_X9_287 : ML RX9 287 yX9_isOfRun := Or.inl (tbl_in 1201 (by decide +kernel) (by decide +kernel))
theorem mc_X9_missing : MC yX9_missing mi_X9_missing 1 := ⟨(tbl_in 1200 (by decide +kernel) (by decide +kernel)), (tbl_in 10 (by decide +kernel) (by decide +kernel)), ⟨by decide +kernel, by decide +kernel⟩, by decide +kernel⟩
theorem im_X9_missing : Cond.instanceMethod yX9_missing ∈ TBL := (tbl_in 1199 (by decide +kernel) (by decide +kernel))
theorem se_X9_missing : Cond.selects RX9 yX9_missing yX9_missing ∈ TBL := sel_in (q := (yX9_missing, 54)) 82 (by decide +kernel) (by decide +kernel)
theorem ml_X9_290 : ML RX9 290 yX9_missing := Or.inl (tbl_in 1197 (by decide +kernel) (by decide +kernel))
theorem mc_X9_prints : MC yX9_prints mi_X9_prints 2 := ⟨(tbl_in 1220 (by decide +kernel) (by decide +kernel)), (tbl_in 10 (by decide +kernel) (by decide +kernel)), ⟨by decide +kernel, by decide +kernel⟩, by decide +kernel⟩
theorem im_X9_prints : Cond.instanceMethod yX9_prints ∈ TBL := (tbl_in 1219 (by decide +kernel) (by decide +kernel))
theorem se_X9_prints : Cond.selects RX9 yX9_prints yX9_prints ∈ TBL := sel_in (q := (yX9_prints, 54)) 86 (by decide +kernel) (by decide +kernel)
theorem ml_X9_293 : ML RX9 293 yX9_prints := Or.inl (tbl_in 1217 (by decide +kernel) (by decide +kernel))
theorem mc_X9_weeksIn : MC yX9_weeksIn mi_X9_weeksIn 2 := ⟨(tbl_in 1236 (by decide +kernel) (by decide +kernel)), (tbl_in 10 (by decide +kernel) (by decide +kernel)), ⟨by decide +kernel, by decide +kernel⟩, by decide +kernel⟩
theorem im_X9_weeksIn : Cond.instanceMethod yX9_weeksIn ∈ TBL := (tbl_in 1235 (by decide +kernel) (by decide +kernel))
theorem se_X9_weeksIn : Cond.selects RX9 yX9_weeksIn yX9_weeksIn ∈ TBL := sel_in (q := (yX9_weeksIn, 54)) 90 (by decide +kernel) (by decide +kernel)
theorem ml_X9_306 : ML RX9 306 yX9_weeksIn := Or.inl (tbl_in 1233 (by decide +kernel) (by decide +kernel))
theorem mc_X9_worth : MC yX9_worth mi_X9_worth 1 := ⟨(tbl_in 1240 (by decide +kernel) (by decide +kernel)), (tbl_in 10 (by decide +kernel) (by decide +kernel)), ⟨by decide +kernel, by decide +kernel⟩, by decide +kernel⟩
theorem im_X9_worth : Cond.instanceMethod yX9_worth ∈ TBL := (tbl_in 1239 (by decide +kernel) (by decide +kernel))
theorem se_X9_worth : Cond.selects RX9 yX9_worth yX9_worth ∈ TBL := sel_in (q := (yX9_worth, 54)) 91 (by decide +kernel) (by decide +kernel)
theorem ml_X9_309 : ML RX9 309 yX9_worth := Or.inl (tbl_in 1237 (by decide +kernel) (by decide +kernel))
theorem kc_X9_312 : Cond.constantLong RX9 312 (1000) ∈ TBL := (tbl_in 1241 (by decide +kernel) (by decide +kernel))
theorem mc_X9_billOf : MC yX9_billOf mi_X9_billOf 2 := ⟨(tbl_in 1232 (by decide +kernel) (by decide +kernel)), (tbl_in 10 (by decide +kernel) (by decide +kernel)), ⟨by decide +kernel, by decide +kernel⟩, by decide +kernel⟩
theorem im_X9_billOf : Cond.instanceMethod yX9_billOf ∈ TBL := (tbl_in 1231 (by decide +kernel) (by decide +kernel))
theorem se_X9_billOf : Cond.selects RX9 yX9_billOf yX9_billOf ∈ TBL := sel_in (q := (yX9_billOf, 54)) 89 (by decide +kernel) (by decide +kernel)
theorem ml_X9_314 : ML RX9 314 yX9_billOf := Or.inl (tbl_in 1229 (by decide +kernel) (by decide +kernel))
theorem mc_X9_bill : MC yX9_bill mi_X9_bill 2 := ⟨(tbl_in 1228 (by decide +kernel) (by decide +kernel)), (tbl_in 10 (by decide +kernel) (by decide +kernel)), ⟨by decide +kernel, by decide +kernel⟩, by decide +kernel⟩
theorem im_X9_bill : Cond.instanceMethod yX9_bill ∈ TBL := (tbl_in 1227 (by decide +kernel) (by decide +kernel))
theorem se_X9_bill : Cond.selects RX9 yX9_bill yX9_bill ∈ TBL := sel_in (q := (yX9_bill, 54)) 88 (by decide +kernel) (by decide +kernel)
theorem ml_X9_317 : ML RX9 317 yX9_bill := Or.inl (tbl_in 1225 (by decide +kernel) (by decide +kernel))
theorem fw_X9_264 (nm : String) : FW RX9 nm 264 10 24 := fun r hr => by cases hr; exact Or.inl rfl
theorem mc_X9_bills : MC yX9_bills mi_X9_bills 1 := ⟨(tbl_in 1224 (by decide +kernel) (by decide +kernel)), (tbl_in 10 (by decide +kernel) (by decide +kernel)), ⟨by decide +kernel, by decide +kernel⟩, by decide +kernel⟩
theorem im_X9_bills : Cond.instanceMethod yX9_bills ∈ TBL := (tbl_in 1223 (by decide +kernel) (by decide +kernel))
theorem se_X9_bills : Cond.selects RX9 yX9_bills yX9_bills ∈ TBL := sel_in (q := (yX9_bills, 54)) 87 (by decide +kernel) (by decide +kernel)
theorem ml_X9_300 : ML RX9 300 yX9_bills := Or.inl (tbl_in 1221 (by decide +kernel) (by decide +kernel))
theorem mc_X9_runs : MC yX9_runs mi_X9_runs 1 := ⟨(tbl_in 1216 (by decide +kernel) (by decide +kernel)), (tbl_in 10 (by decide +kernel) (by decide +kernel)), ⟨by decide +kernel, by decide +kernel⟩, by decide +kernel⟩
theorem im_X9_runs : Cond.instanceMethod yX9_runs ∈ TBL := (tbl_in 1215 (by decide +kernel) (by decide +kernel))
theorem se_X9_runs : Cond.selects RX9 yX9_runs yX9_runs ∈ TBL := sel_in (q := (yX9_runs, 54)) 85 (by decide +kernel) (by decide +kernel)
theorem ml_X9_297 : ML RX9 297 yX9_runs := Or.inl (tbl_in 1213 (by decide +kernel) (by decide +kernel))
theorem mc_X9_week : MC yX9_week mi_X9_week 0 := ⟨(tbl_in 1212 (by decide +kernel) (by decide +kernel)), (tbl_in 10 (by decide +kernel) (by decide +kernel)), ⟨by decide +kernel, by decide +kernel⟩, by decide +kernel⟩
theorem im_X9_week : Cond.instanceMethod yX9_week ∈ TBL := (tbl_in 1211 (by decide +kernel) (by decide +kernel))
theorem se_X9_week : Cond.selects RX9 yX9_week yX9_week ∈ TBL := sel_in (q := (yX9_week, 54)) 84 (by decide +kernel) (by decide +kernel)
theorem ml_X9_303 : ML RX9 303 yX9_week := Or.inl (tbl_in 1209 (by decide +kernel) (by decide +kernel))
theorem mc_X9_gap : MC yX9_gap mi_X9_gap 2 := ⟨(tbl_in 1261 (by decide +kernel) (by decide +kernel)), (tbl_in 10 (by decide +kernel) (by decide +kernel)), ⟨by decide +kernel, by decide +kernel⟩, by decide +kernel⟩
theorem im_X9_gap : Cond.instanceMethod yX9_gap ∈ TBL := (tbl_in 1260 (by decide +kernel) (by decide +kernel))
theorem se_X9_gap : Cond.selects RX9 yX9_gap yX9_gap ∈ TBL := sel_in (q := (yX9_gap, 54)) 92 (by decide +kernel) (by decide +kernel)
theorem ml_X9_320 : ML RX9 320 yX9_gap := Or.inl (tbl_in 1258 (by decide +kernel) (by decide +kernel))
