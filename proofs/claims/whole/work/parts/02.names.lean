def RX0 : String := "PanelHouse$Contract"
def TX0 : u_T := fun k => match k with
  | 0 => ("PanelHouse$Contract", "paper", "LPanelHouse$Paper;", true)
  | 1 => ("PanelHouse$Contract", "feature", "LPanelHouse$Feature;", true)
  | 2 => ("PanelHouse$Contract", "first", "I", true)
  | 3 => ("PanelHouse$Contract", "last", "I", false)
  | 4 => ("PanelHouse$Contract", "missWeek", "I", false)
  | 5 => ("PanelHouse$Contract", "runStart", "I", false)
  | 6 => ("PanelHouse$Contract", "runLength", "I", false)
  | 7 => ("PanelHouse$Contract", "printed", "I", false)
  | 8 => ("PanelHouse$Contract", "billed", "I", false)
  | 9 => ("PanelHouse$Contract", "there", "[Z", true)
  | _ => ("PanelHouse$Contract", "printedByMonth", "[I", true)
def tyX0 : Nat → FieldType := fun k => match k with
  | 0 => .object "PanelHouse$Paper"
  | 1 => .object "PanelHouse$Feature"
  | 2 => .int
  | 3 => .int
  | 4 => .int
  | 5 => .int
  | 6 => .int
  | 7 => .int
  | 8 => .int
  | 9 => .array .boolean
  | _ => .array .int
abbrev wsX00 : List Cond := u_ws RX0 TX0 11
theorem nmX0 : ∀ a, a < 11 → ∀ b, b < 11 → a ≠ b → (TX0 a).2.1 ≠ (TX0 b).2.1 := by decide +kernel
theorem tyX0_ok : ∀ k, k < 11 → parseFieldDescriptor (TX0 k).2.2.1 = some (tyX0 k) := by decide +kernel
abbrev cX0_init : ByteArray := prog_2_method_1_code
def yX0_init : MethodName := ⟨RX0, "<init>", "(LPanelHouse$Paper;LPanelHouse$Feature;I)V"⟩
abbrev cX0_runsIn : ByteArray := prog_2_method_2_code
def yX0_runsIn : MethodName := ⟨RX0, "runsIn", "(I)Z"⟩
abbrev cX0_weeksRunIn : ByteArray := prog_2_method_3_code
def yX0_weeksRunIn : MethodName := ⟨RX0, "weeksRunIn", "(I)I"⟩
abbrev cX0_receive : ByteArray := prog_2_method_4_code
def yX0_receive : MethodName := ⟨RX0, "receive", "(I)V"⟩
abbrev cX0_print : ByteArray := prog_2_method_5_code
def yX0_print : MethodName := ⟨RX0, "print", "(I)V"⟩
abbrev cX0_isThere : ByteArray := prog_2_method_6_code
def yX0_isThere : MethodName := ⟨RX0, "isThere", "(I)Z"⟩
abbrev cX0_printedIn : ByteArray := prog_2_method_7_code
def yX0_printedIn : MethodName := ⟨RX0, "printedIn", "(I)I"⟩
abbrev cX0_nextPanel : ByteArray := prog_2_method_8_code
def yX0_nextPanel : MethodName := ⟨RX0, "nextPanel", "()I"⟩
abbrev cX0_gap : ByteArray := prog_2_method_9_code
def yX0_gap : MethodName := ⟨RX0, "gap", "()I"⟩
abbrev cX0_missing : ByteArray := prog_2_method_10_code
def yX0_missing : MethodName := ⟨RX0, "missing", "()I"⟩
abbrev cX0_sendAgain : ByteArray := prog_2_method_11_code
def yX0_sendAgain : MethodName := ⟨RX0, "sendAgain", "()I"⟩
abbrev cX0_addBill : ByteArray := prog_2_method_12_code
def yX0_addBill : MethodName := ⟨RX0, "addBill", "(I)V"⟩
def RX1 : String := "PanelHouse$Feature"
def TX1 : u_T := fun k => match k with
  | 0 => ("PanelHouse$Feature", "number", "I", true)
  | 1 => ("PanelHouse$Feature", "kind", "I", true)
  | 2 => ("PanelHouse$Feature", "miles", "I", true)
  | 3 => ("PanelHouse$Feature", "shares", "[I", true)
  | 4 => ("PanelHouse$Feature", "stopped", "Z", false)
  | 5 => ("PanelHouse$Feature", "illUntil", "I", false)
  | 6 => ("PanelHouse$Feature", "latest", "I", false)
  | 7 => ("PanelHouse$Feature", "fresh", "Z", false)
  | _ => ("PanelHouse$Feature", "income", "I", false)
def tyX1 : Nat → FieldType := fun k => match k with
  | 0 => .int
  | 1 => .int
  | 2 => .int
  | 3 => .array .int
  | 4 => .boolean
  | 5 => .int
  | 6 => .int
  | 7 => .boolean
  | _ => .int
abbrev wsX10 : List Cond := u_ws RX1 TX1 9
theorem nmX1 : ∀ a, a < 9 → ∀ b, b < 9 → a ≠ b → (TX1 a).2.1 ≠ (TX1 b).2.1 := by decide +kernel
theorem tyX1_ok : ∀ k, k < 9 → parseFieldDescriptor (TX1 k).2.2.1 = some (tyX1 k) := by decide +kernel
abbrev cX1_init : ByteArray := prog_3_method_1_code
def yX1_init : MethodName := ⟨RX1, "<init>", "(IIIIII)V"⟩
abbrev cX1_draw : ByteArray := prog_3_method_2_code
def yX1_draw : MethodName := ⟨RX1, "draw", "(I)V"⟩
abbrev cX1_coinsOf : ByteArray := prog_3_method_3_code
def yX1_coinsOf : MethodName := ⟨RX1, "coinsOf", "(I)I"⟩
abbrev cX1_cutOf : ByteArray := prog_3_method_4_code
def yX1_cutOf : MethodName := ⟨RX1, "cutOf", "(I)J"⟩
abbrev cX1_restOf : ByteArray := prog_3_method_5_code
def yX1_restOf : MethodName := ⟨RX1, "restOf", "(I)J"⟩
abbrev cX1_placeByRest : ByteArray := prog_3_method_6_code
def yX1_placeByRest : MethodName := ⟨RX1, "placeByRest", "(I)I"⟩
abbrev cX1_shareOf : ByteArray := prog_3_method_7_code
def yX1_shareOf : MethodName := ⟨RX1, "shareOf", "(I)I"⟩
abbrev cX1_allShares : ByteArray := prog_3_method_8_code
def yX1_allShares : MethodName := ⟨RX1, "allShares", "()J"⟩
def RX2 : String := "PanelHouse$Paper"
def TX2 : u_T := fun k => match k with
  | 0 => ("PanelHouse$Paper", "number", "I", true)
  | 1 => ("PanelHouse$Paper", "x", "I", true)
  | 2 => ("PanelHouse$Paper", "y", "I", true)
  | _ => ("PanelHouse$Paper", "sold", "[I", true)
def tyX2 : Nat → FieldType := fun k => match k with
  | 0 => .int
  | 1 => .int
  | 2 => .int
  | _ => .array .int
abbrev wsX20 : List Cond := u_ws RX2 TX2 4
theorem nmX2 : ∀ a, a < 4 → ∀ b, b < 4 → a ≠ b → (TX2 a).2.1 ≠ (TX2 b).2.1 := by decide +kernel
theorem tyX2_ok : ∀ k, k < 4 → parseFieldDescriptor (TX2 k).2.2.1 = some (tyX2 k) := by decide +kernel
abbrev cX2_init : ByteArray := prog_4_method_1_code
def yX2_init : MethodName := ⟨RX2, "<init>", "(IIII)V"⟩
abbrev cX2_sellFrom : ByteArray := prog_4_method_2_code
def yX2_sellFrom : MethodName := ⟨RX2, "sellFrom", "(II)V"⟩
abbrev cX2_putRight : ByteArray := prog_4_method_3_code
def yX2_putRight : MethodName := ⟨RX2, "putRight", "(II)V"⟩
abbrev cX2_soldIn : ByteArray := prog_4_method_4_code
def yX2_soldIn : MethodName := ⟨RX2, "soldIn", "(I)I"⟩
abbrev cX2_isNearer : ByteArray := prog_4_method_5_code
def yX2_isNearer : MethodName := ⟨RX2, "isNearer", "(LPanelHouse$Paper;I)Z"⟩
def RX3 : String := "PanelHouse$RateText"
def TX3 : u_T := fun k => match k with
  | 0 => ("PanelHouse$RateText", "code", "[I", true)
  | _ => ("PanelHouse$RateText", "lines", "I", true)
def tyX3 : Nat → FieldType := fun k => match k with
  | 0 => .array .int
  | _ => .int
abbrev wsX30 : List Cond := u_ws RX3 TX3 2
theorem nmX3 : ∀ a, a < 2 → ∀ b, b < 2 → a ≠ b → (TX3 a).2.1 ≠ (TX3 b).2.1 := by decide +kernel
theorem tyX3_ok : ∀ k, k < 2 → parseFieldDescriptor (TX3 k).2.2.1 = some (tyX3 k) := by decide +kernel
abbrev cX3_init : ByteArray := prog_5_method_1_code
def yX3_init : MethodName := ⟨RX3, "<init>", "([II)V"⟩
def RX4 : String := "PanelHouse$Reckoner"
def TX4 : u_T := fun k => match k with
  | 0 => ("PanelHouse$Reckoner", "facts", "[I", true)
  | 1 => ("PanelHouse$Reckoner", "waiting", "[I", true)
  | _ => ("PanelHouse$Reckoner", "height", "I", false)
def tyX4 : Nat → FieldType := fun k => match k with
  | 0 => .array .int
  | 1 => .array .int
  | _ => .int
abbrev wsX40 : List Cond := u_ws RX4 TX4 3
theorem nmX4 : ∀ a, a < 3 → ∀ b, b < 3 → a ≠ b → (TX4 a).2.1 ≠ (TX4 b).2.1 := by decide +kernel
theorem tyX4_ok : ∀ k, k < 3 → parseFieldDescriptor (TX4 k).2.2.1 = some (tyX4 k) := by decide +kernel
abbrev cX4_init : ByteArray := prog_6_method_1_code
def yX4_init : MethodName := ⟨RX4, "<init>", "()V"⟩
abbrev cX4_tell : ByteArray := prog_6_method_2_code
def yX4_tell : MethodName := ⟨RX4, "tell", "(II)V"⟩
abbrev cX4_rateBy : ByteArray := prog_6_method_3_code
def yX4_rateBy : MethodName := ⟨RX4, "rateBy", "(LPanelHouse$RateText;)I"⟩
abbrev cX4_take : ByteArray := prog_6_method_4_code
def yX4_take : MethodName := ⟨RX4, "take", "(I)V"⟩
abbrev cX4_join : ByteArray := prog_6_method_5_code
def yX4_join : MethodName := ⟨RX4, "join", "(III)I"⟩
abbrev cX4_push : ByteArray := prog_6_method_6_code
def yX4_push : MethodName := ⟨RX4, "push", "(I)V"⟩
abbrev cX4_pop : ByteArray := prog_6_method_7_code
def yX4_pop : MethodName := ⟨RX4, "pop", "()I"⟩
def RX5 : String := "PanelHouse$Tape"
def TX5 : u_T := fun k => match k with
  | 0 => ("PanelHouse$Tape", "signs", "[B", true)
  | _ => ("PanelHouse$Tape", "length", "I", false)
def tyX5 : Nat → FieldType := fun k => match k with
  | 0 => .array .byte
  | _ => .int
abbrev wsX50 : List Cond := u_ws RX5 TX5 2
theorem nmX5 : ∀ a, a < 2 → ∀ b, b < 2 → a ≠ b → (TX5 a).2.1 ≠ (TX5 b).2.1 := by decide +kernel
theorem tyX5_ok : ∀ k, k < 2 → parseFieldDescriptor (TX5 k).2.2.1 = some (tyX5 k) := by decide +kernel
abbrev cX5_init : ByteArray := prog_7_method_1_code
def yX5_init : MethodName := ⟨RX5, "<init>", "()V"⟩
abbrev cX5_addBytes : ByteArray := prog_7_method_2_code
def yX5_addBytes : MethodName := ⟨RX5, "addBytes", "(J)V"⟩
abbrev cX5_addSign : ByteArray := prog_7_method_3_code
def yX5_addSign : MethodName := ⟨RX5, "addSign", "(I)V"⟩
abbrev cX5_signAt : ByteArray := prog_7_method_4_code
def yX5_signAt : MethodName := ⟨RX5, "signAt", "(I)I"⟩
abbrev cX5_clear : ByteArray := prog_7_method_5_code
def yX5_clear : MethodName := ⟨RX5, "clear", "()V"⟩
def RX6 : String := "PanelHouse$TextReader"
def TX6 : u_T := fun k => match k with
  | 0 => ("PanelHouse$TextReader", "tokens", "LPanelHouse$Tokens;", true)
  | 1 => ("PanelHouse$TextReader", "code", "[I", true)
  | 2 => ("PanelHouse$TextReader", "codeLength", "I", false)
  | 3 => ("PanelHouse$TextReader", "at", "I", false)
  | 4 => ("PanelHouse$TextReader", "token", "I", false)
  | 5 => ("PanelHouse$TextReader", "lines", "I", false)
  | _ => ("PanelHouse$TextReader", "fault", "I", false)
def tyX6 : Nat → FieldType := fun k => match k with
  | 0 => .object "PanelHouse$Tokens"
  | 1 => .array .int
  | 2 => .int
  | 3 => .int
  | 4 => .int
  | 5 => .int
  | _ => .int
abbrev wsX60 : List Cond := u_ws RX6 TX6 7
theorem nmX6 : ∀ a, a < 7 → ∀ b, b < 7 → a ≠ b → (TX6 a).2.1 ≠ (TX6 b).2.1 := by decide +kernel
theorem tyX6_ok : ∀ k, k < 7 → parseFieldDescriptor (TX6 k).2.2.1 = some (tyX6 k) := by decide +kernel
abbrev cX6_init : ByteArray := prog_8_method_1_code
def yX6_init : MethodName := ⟨RX6, "<init>", "()V"⟩
abbrev cX6_read : ByteArray := prog_8_method_2_code
def yX6_read : MethodName := ⟨RX6, "read", "(LPanelHouse$Tape;)I"⟩
abbrev cX6_rateText : ByteArray := prog_8_method_3_code
def yX6_rateText : MethodName := ⟨RX6, "rateText", "()LPanelHouse$RateText;"⟩
abbrev cX6_readLine : ByteArray := prog_8_method_4_code
def yX6_readLine : MethodName := ⟨RX6, "readLine", "()V"⟩
abbrev cX6_takeRate : ByteArray := prog_8_method_5_code
def yX6_takeRate : MethodName := ⟨RX6, "takeRate", "()I"⟩
abbrev cX6_readAnds : ByteArray := prog_8_method_6_code
def yX6_readAnds : MethodName := ⟨RX6, "readAnds", "(I)V"⟩
abbrev cX6_readTest : ByteArray := prog_8_method_7_code
def yX6_readTest : MethodName := ⟨RX6, "readTest", "(I)V"⟩
abbrev cX6_readSum : ByteArray := prog_8_method_8_code
def yX6_readSum : MethodName := ⟨RX6, "readSum", "(I)V"⟩
abbrev cX6_readPart : ByteArray := prog_8_method_9_code
def yX6_readPart : MethodName := ⟨RX6, "readPart", "(I)V"⟩
abbrev cX6_take : ByteArray := prog_8_method_10_code
def yX6_take : MethodName := ⟨RX6, "take", "(I)V"⟩
abbrev cX6_goOn : ByteArray := prog_8_method_11_code
def yX6_goOn : MethodName := ⟨RX6, "goOn", "()V"⟩
abbrev cX6_mark : ByteArray := prog_8_method_12_code
def yX6_mark : MethodName := ⟨RX6, "mark", "(I)V"⟩
abbrev cX6_write : ByteArray := prog_8_method_13_code
def yX6_write : MethodName := ⟨RX6, "write", "(I)V"⟩
def RX7 : String := "PanelHouse$Tokens"
def TX7 : u_T := fun k => match k with
  | 0 => ("PanelHouse$Tokens", "kinds", "[I", true)
  | 1 => ("PanelHouse$Tokens", "places", "[I", true)
  | _ => ("PanelHouse$Tokens", "size", "I", false)
def tyX7 : Nat → FieldType := fun k => match k with
  | 0 => .array .int
  | 1 => .array .int
  | _ => .int
abbrev wsX70 : List Cond := u_ws RX7 TX7 3
theorem nmX7 : ∀ a, a < 3 → ∀ b, b < 3 → a ≠ b → (TX7 a).2.1 ≠ (TX7 b).2.1 := by decide +kernel
theorem tyX7_ok : ∀ k, k < 3 → parseFieldDescriptor (TX7 k).2.2.1 = some (tyX7 k) := by decide +kernel
abbrev cX7_init : ByteArray := prog_9_method_1_code
def yX7_init : MethodName := ⟨RX7, "<init>", "()V"⟩
abbrev cX7_scan : ByteArray := prog_9_method_2_code
def yX7_scan : MethodName := ⟨RX7, "scan", "(LPanelHouse$Tape;)V"⟩
abbrev cX7_addNumber : ByteArray := prog_9_method_3_code
def yX7_addNumber : MethodName := ⟨RX7, "addNumber", "(LPanelHouse$Tape;I)I"⟩
abbrev cX7_addWord : ByteArray := prog_9_method_4_code
def yX7_addWord : MethodName := ⟨RX7, "addWord", "(LPanelHouse$Tape;I)I"⟩
abbrev cX7_add : ByteArray := prog_9_method_5_code
def yX7_add : MethodName := ⟨RX7, "add", "(II)V"⟩
abbrev cX7_isDigit : ByteArray := prog_9_method_6_code
def yX7_isDigit : MethodName := ⟨RX7, "isDigit", "(I)Z"⟩
abbrev cX7_isLetter : ByteArray := prog_9_method_7_code
def yX7_isLetter : MethodName := ⟨RX7, "isLetter", "(I)Z"⟩
abbrev cX7_signKind : ByteArray := prog_9_method_8_code
def yX7_signKind : MethodName := ⟨RX7, "signKind", "(I)I"⟩
abbrev cX7_wordKind : ByteArray := prog_9_method_9_code
def yX7_wordKind : MethodName := ⟨RX7, "wordKind", "(LPanelHouse$Tape;II)I"⟩
abbrev cX7_spells : ByteArray := prog_9_method_10_code
def yX7_spells : MethodName := ⟨RX7, "spells", "(LPanelHouse$Tape;IILjava/lang/String;)Z"⟩
def RX8 : String := "PanelHouse"
def TX8 : u_T := fun k => match k with
  | 0 => ("PanelHouse", "features", "Ljava/util/ArrayList;", true)
  | 1 => ("PanelHouse", "papers", "Ljava/util/ArrayList;", true)
  | 2 => ("PanelHouse", "contracts", "Ljava/util/ArrayList;", true)
  | 3 => ("PanelHouse", "tape", "LPanelHouse$Tape;", true)
  | 4 => ("PanelHouse", "reader", "LPanelHouse$TextReader;", true)
  | 5 => ("PanelHouse", "reckoner", "LPanelHouse$Reckoner;", true)
  | 6 => ("PanelHouse", "textOfMonth", "[LPanelHouse$RateText;", true)
  | 7 => ("PanelHouse", "rates", "LPanelHouse$RateText;", false)
  | 8 => ("PanelHouse", "textsTaken", "I", false)
  | _ => ("PanelHouse", "now", "I", false)
def tyX8 : Nat → FieldType := fun k => match k with
  | 0 => .object "java/util/ArrayList"
  | 1 => .object "java/util/ArrayList"
  | 2 => .object "java/util/ArrayList"
  | 3 => .object "PanelHouse$Tape"
  | 4 => .object "PanelHouse$TextReader"
  | 5 => .object "PanelHouse$Reckoner"
  | 6 => .array (.object "PanelHouse$RateText")
  | 7 => .object "PanelHouse$RateText"
  | 8 => .int
  | _ => .int
abbrev wsX80 : List Cond := u_ws RX8 TX8 10
theorem nmX8 : ∀ a, a < 10 → ∀ b, b < 10 → a ≠ b → (TX8 a).2.1 ≠ (TX8 b).2.1 := by decide +kernel
theorem tyX8_ok : ∀ k, k < 10 → parseFieldDescriptor (TX8 k).2.2.1 = some (tyX8 k) := by decide +kernel
abbrev cX8_init : ByteArray := prog_1_method_1_code
def yX8_init : MethodName := ⟨RX8, "<init>", "()V"⟩
abbrev cX8_feature : ByteArray := prog_1_method_2_code
def yX8_feature : MethodName := ⟨RX8, "feature", "(IIIII)I"⟩
abbrev cX8_paper : ByteArray := prog_1_method_3_code
def yX8_paper : MethodName := ⟨RX8, "paper", "(III)I"⟩
abbrev cX8_circulation : ByteArray := prog_1_method_4_code
def yX8_circulation : MethodName := ⟨RX8, "circulation", "(II)Z"⟩
abbrev cX8_right : ByteArray := prog_1_method_5_code
def yX8_right : MethodName := ⟨RX8, "right", "(III)I"⟩
abbrev cX8_sign : ByteArray := prog_1_method_6_code
def yX8_sign : MethodName := ⟨RX8, "sign", "(II)I"⟩
abbrev cX8_cancel : ByteArray := prog_1_method_7_code
def yX8_cancel : MethodName := ⟨RX8, "cancel", "(I)I"⟩
abbrev cX8_ill : ByteArray := prog_1_method_8_code
def yX8_ill : MethodName := ⟨RX8, "ill", "(II)Z"⟩
abbrev cX8_stop : ByteArray := prog_1_method_9_code
def yX8_stop : MethodName := ⟨RX8, "stop", "(IZ)Z"⟩
abbrev cX8_miss : ByteArray := prog_1_method_10_code
def yX8_miss : MethodName := ⟨RX8, "miss", "(I)Z"⟩
abbrev cX8_send : ByteArray := prog_1_method_11_code
def yX8_send : MethodName := ⟨RX8, "send", "(I)I"⟩
abbrev cX8_weeks : ByteArray := prog_1_method_12_code
def yX8_weeks : MethodName := ⟨RX8, "weeks", "(I)I"⟩
abbrev cX8_feed : ByteArray := prog_1_method_13_code
def yX8_feed : MethodName := ⟨RX8, "feed", "(JJJ)I"⟩
abbrev cX8_text : ByteArray := prog_1_method_14_code
def yX8_text : MethodName := ⟨RX8, "text", "()I"⟩
abbrev cX8_look : ByteArray := prog_1_method_15_code
def yX8_look : MethodName := ⟨RX8, "look", "(II)I"⟩
abbrev cX8_panel : ByteArray := prog_1_method_16_code
def yX8_panel : MethodName := ⟨RX8, "panel", "(I)I"⟩
abbrev cX8_income : ByteArray := prog_1_method_17_code
def yX8_income : MethodName := ⟨RX8, "income", "(I)I"⟩
abbrev cX8_share : ByteArray := prog_1_method_18_code
def yX8_share : MethodName := ⟨RX8, "share", "(II)I"⟩
abbrev cX8_sells : ByteArray := prog_1_method_19_code
def yX8_sells : MethodName := ⟨RX8, "sells", "(II)I"⟩
abbrev cX8_count : ByteArray := prog_1_method_20_code
def yX8_count : MethodName := ⟨RX8, "count", "(I)I"⟩
abbrev cX8_isWithin : ByteArray := prog_1_method_21_code
def yX8_isWithin : MethodName := ⟨RX8, "isWithin", "(III)Z"⟩
abbrev cX8_isCirculation : ByteArray := prog_1_method_22_code
def yX8_isCirculation : MethodName := ⟨RX8, "isCirculation", "(I)Z"⟩
abbrev cX8_featureAt : ByteArray := prog_1_method_23_code
def yX8_featureAt : MethodName := ⟨RX8, "featureAt", "(I)LPanelHouse$Feature;"⟩
abbrev cX8_paperAt : ByteArray := prog_1_method_24_code
def yX8_paperAt : MethodName := ⟨RX8, "paperAt", "(I)LPanelHouse$Paper;"⟩
abbrev cX8_contractAt : ByteArray := prog_1_method_25_code
def yX8_contractAt : MethodName := ⟨RX8, "contractAt", "(I)LPanelHouse$Contract;"⟩
abbrev cX8_runningMonth : ByteArray := prog_1_method_26_code
def yX8_runningMonth : MethodName := ⟨RX8, "runningMonth", "()I"⟩
abbrev cX8_runningContracts : ByteArray := prog_1_method_27_code
def yX8_runningContracts : MethodName := ⟨RX8, "runningContracts", "()I"⟩
abbrev cX8_hasRunning : ByteArray := prog_1_method_28_code
def yX8_hasRunning : MethodName := ⟨RX8, "hasRunning", "(LPanelHouse$Paper;LPanelHouse$Feature;)Z"⟩
abbrev cX8_isBarred : ByteArray := prog_1_method_29_code
def yX8_isBarred : MethodName := ⟨RX8, "isBarred", "(LPanelHouse$Paper;LPanelHouse$Feature;)Z"⟩
abbrev cX8_passWeek : ByteArray := prog_1_method_30_code
def yX8_passWeek : MethodName := ⟨RX8, "passWeek", "()V"⟩
abbrev cX8_endMonth : ByteArray := prog_1_method_31_code
def yX8_endMonth : MethodName := ⟨RX8, "endMonth", "(I)V"⟩
abbrev cX8_reckon : ByteArray := prog_1_method_32_code
def yX8_reckon : MethodName := ⟨RX8, "reckon", "(LPanelHouse$Contract;II)I"⟩
def RX9 : String := "PanelHouseModel"
def TX9 : u_T := fun k => match k with
  | 0 => ("PanelHouseModel", "thrown", "I", false)
  | 1 => ("PanelHouseModel", "tape", "[I", true)
  | 2 => ("PanelHouseModel", "taped", "I", false)
  | 3 => ("PanelHouseModel", "size", "I", false)
  | 4 => ("PanelHouseModel", "sort", "[I", true)
  | 5 => ("PanelHouseModel", "place", "[I", true)
  | 6 => ("PanelHouseModel", "value", "[J", true)
  | 7 => ("PanelHouseModel", "at", "I", false)
  | 8 => ("PanelHouseModel", "fault", "I", false)
  | 9 => ("PanelHouseModel", "words", "[J", true)
  | 10 => ("PanelHouseModel", "texts", "I", false)
  | 11 => ("PanelHouseModel", "text0", "I", false)
  | 12 => ("PanelHouseModel", "lines", "[I", true)
  | 13 => ("PanelHouseModel", "lineN", "[I", true)
  | 14 => ("PanelHouseModel", "lineAt", "[I", true)
  | 15 => ("PanelHouseModel", "op", "[I", true)
  | 16 => ("PanelHouseModel", "one", "[I", true)
  | 17 => ("PanelHouseModel", "codes", "I", false)
  | 18 => ("PanelHouseModel", "deep", "I", false)
  | 19 => ("PanelHouseModel", "sumWaits", "[I", true)
  | 20 => ("PanelHouseModel", "signWaits", "[I", true)
  | 21 => ("PanelHouseModel", "andWaits", "[I", true)
  | 22 => ("PanelHouseModel", "known", "[I", true)
  | 23 => ("PanelHouseModel", "pile", "[I", true)
  | 24 => ("PanelHouseModel", "now", "I", false)
  | 25 => ("PanelHouseModel", "features", "I", false)
  | 26 => ("PanelHouseModel", "kind", "[I", true)
  | 27 => ("PanelHouseModel", "miles", "[I", true)
  | 28 => ("PanelHouseModel", "shares", "[I", true)
  | 29 => ("PanelHouseModel", "isStopped", "[Z", true)
  | 30 => ("PanelHouseModel", "illTo", "[I", true)
  | 31 => ("PanelHouseModel", "panels", "[I", true)
  | 32 => ("PanelHouseModel", "newIn", "[I", true)
  | 33 => ("PanelHouseModel", "income", "[I", true)
  | 34 => ("PanelHouseModel", "papers", "I", false)
  | 35 => ("PanelHouseModel", "placeX", "[I", true)
  | 36 => ("PanelHouseModel", "placeY", "[I", true)
  | 37 => ("PanelHouseModel", "sells", "[I", true)
  | 38 => ("PanelHouseModel", "soldIn", "[I", true)
  | 39 => ("PanelHouseModel", "contracts", "I", false)
  | 40 => ("PanelHouseModel", "paperOf", "[I", true)
  | 41 => ("PanelHouseModel", "featureOf", "[I", true)
  | 42 => ("PanelHouseModel", "first", "[I", true)
  | 43 => ("PanelHouseModel", "last", "[I", true)
  | 44 => ("PanelHouseModel", "next", "[I", true)
  | 45 => ("PanelHouseModel", "printed", "[I", true)
  | 46 => ("PanelHouseModel", "isMissed", "[Z", true)
  | 47 => ("PanelHouseModel", "has", "[Z", true)
  | 48 => ("PanelHouseModel", "printedIn", "[I", true)
  | 49 => ("PanelHouseModel", "billedIn", "[I", true)
  | 50 => ("PanelHouseModel", "billed", "[I", true)
  | 51 => ("PanelHouseModel", "textOf", "[I", true)
  | 52 => ("PanelHouseModel", "rest", "[I", true)
  | _ => ("PanelHouseModel", "part", "[I", true)
def tyX9 : Nat → FieldType := fun k => match k with
  | 0 => .int
  | 1 => .array .int
  | 2 => .int
  | 3 => .int
  | 4 => .array .int
  | 5 => .array .int
  | 6 => .array .long
  | 7 => .int
  | 8 => .int
  | 9 => .array .long
  | 10 => .int
  | 11 => .int
  | 12 => .array .int
  | 13 => .array .int
  | 14 => .array .int
  | 15 => .array .int
  | 16 => .array .int
  | 17 => .int
  | 18 => .int
  | 19 => .array .int
  | 20 => .array .int
  | 21 => .array .int
  | 22 => .array .int
  | 23 => .array .int
  | 24 => .int
  | 25 => .int
  | 26 => .array .int
  | 27 => .array .int
  | 28 => .array .int
  | 29 => .array .boolean
  | 30 => .array .int
  | 31 => .array .int
  | 32 => .array .int
  | 33 => .array .int
  | 34 => .int
  | 35 => .array .int
  | 36 => .array .int
  | 37 => .array .int
  | 38 => .array .int
  | 39 => .int
  | 40 => .array .int
  | 41 => .array .int
  | 42 => .array .int
  | 43 => .array .int
  | 44 => .array .int
  | 45 => .array .int
  | 46 => .array .boolean
  | 47 => .array .boolean
  | 48 => .array .int
  | 49 => .array .int
  | 50 => .array .int
  | 51 => .array .int
  | 52 => .array .int
  | _ => .array .int
abbrev wsX90 : List Cond := u_ws RX9 TX9 54
theorem nmX9 : ∀ a, a < 54 → ∀ b, b < 54 → a ≠ b → (TX9 a).2.1 ≠ (TX9 b).2.1 := by decide +kernel
theorem tyX9_ok : ∀ k, k < 54 → parseFieldDescriptor (TX9 k).2.2.1 = some (tyX9 k) := by decide +kernel
abbrev cX9_thrown : ByteArray := prog_11_method_1_code
def yX9_thrown : MethodName := ⟨RX9, "thrown", "()I"⟩
abbrev cX9_feed : ByteArray := prog_11_method_2_code
def yX9_feed : MethodName := ⟨RX9, "feed", "(JJJ)I"⟩
abbrev cX9_lay : ByteArray := prog_11_method_3_code
def yX9_lay : MethodName := ⟨RX9, "lay", "(J)V"⟩
abbrev cX9_init : ByteArray := prog_11_method_4_code
def yX9_init : MethodName := ⟨RX9, "<init>", "()V"⟩
abbrev cX9_isLetter : ByteArray := prog_11_method_5_code
def yX9_isLetter : MethodName := ⟨RX9, "isLetter", "(I)Z"⟩
abbrev cX9_isDigit : ByteArray := prog_11_method_6_code
def yX9_isDigit : MethodName := ⟨RX9, "isDigit", "(I)Z"⟩
abbrev cX9_rank : ByteArray := prog_11_method_7_code
def yX9_rank : MethodName := ⟨RX9, "rank", "(I)I"⟩
abbrev cX9_isSignOf : ByteArray := prog_11_method_8_code
def yX9_isSignOf : MethodName := ⟨RX9, "isSignOf", "(I)Z"⟩
abbrev cX9_cutAll : ByteArray := prog_11_method_9_code
def yX9_cutAll : MethodName := ⟨RX9, "cutAll", "()V"⟩
abbrev cX9_wrong : ByteArray := prog_11_method_10_code
def yX9_wrong : MethodName := ⟨RX9, "wrong", "(I)V"⟩
abbrev cX9_isSign : ByteArray := prog_11_method_11_code
def yX9_isSign : MethodName := ⟨RX9, "isSign", "(I)Z"⟩
abbrev cX9_isWord : ByteArray := prog_11_method_12_code
def yX9_isWord : MethodName := ⟨RX9, "isWord", "(I)Z"⟩
abbrev cX9_takeSign : ByteArray := prog_11_method_13_code
def yX9_takeSign : MethodName := ⟨RX9, "takeSign", "(I)V"⟩
abbrev cX9_hasSign : ByteArray := prog_11_method_14_code
def yX9_hasSign : MethodName := ⟨RX9, "hasSign", "(I)Z"⟩
abbrev cX9_hasWord : ByteArray := prog_11_method_15_code
def yX9_hasWord : MethodName := ⟨RX9, "hasWord", "(I)Z"⟩
abbrev cX9_takeWord : ByteArray := prog_11_method_16_code
def yX9_takeWord : MethodName := ⟨RX9, "takeWord", "(I)V"⟩
abbrev cX9_emit : ByteArray := prog_11_method_17_code
def yX9_emit : MethodName := ⟨RX9, "emit", "(II)V"⟩
abbrev cX9_text : ByteArray := prog_11_method_18_code
def yX9_text : MethodName := ⟨RX9, "text", "()I"⟩
abbrev cX9_keeps : ByteArray := prog_11_method_19_code
def yX9_keeps : MethodName := ⟨RX9, "keeps", "()V"⟩
abbrev cX9_line : ByteArray := prog_11_method_20_code
def yX9_line : MethodName := ⟨RX9, "line", "()V"⟩
abbrev cX9_opens : ByteArray := prog_11_method_21_code
def yX9_opens : MethodName := ⟨RX9, "opens", "()V"⟩
abbrev cX9_partWord : ByteArray := prog_11_method_22_code
def yX9_partWord : MethodName := ⟨RX9, "partWord", "()I"⟩
abbrev cX9_part : ByteArray := prog_11_method_23_code
def yX9_part : MethodName := ⟨RX9, "part", "()Z"⟩
abbrev cX9_goesOnBehind : ByteArray := prog_11_method_24_code
def yX9_goesOnBehind : MethodName := ⟨RX9, "goesOnBehind", "()Z"⟩
abbrev cX9_worth : ByteArray := prog_11_method_25_code
def yX9_worth : MethodName := ⟨RX9, "worth", "(I)I"⟩
abbrev cX9_within : ByteArray := prog_11_method_26_code
def yX9_within : MethodName := ⟨RX9, "within", "(III)Z"⟩
abbrev cX9_feature : ByteArray := prog_11_method_27_code
def yX9_feature : MethodName := ⟨RX9, "feature", "(IIIII)I"⟩
abbrev cX9_paper : ByteArray := prog_11_method_28_code
def yX9_paper : MethodName := ⟨RX9, "paper", "(III)I"⟩
abbrev cX9_isFeature : ByteArray := prog_11_method_29_code
def yX9_isFeature : MethodName := ⟨RX9, "isFeature", "(I)Z"⟩
abbrev cX9_isPaper : ByteArray := prog_11_method_30_code
def yX9_isPaper : MethodName := ⟨RX9, "isPaper", "(I)Z"⟩
abbrev cX9_circulation : ByteArray := prog_11_method_31_code
def yX9_circulation : MethodName := ⟨RX9, "circulation", "(II)Z"⟩
abbrev cX9_sells : ByteArray := prog_11_method_32_code
def yX9_sells : MethodName := ⟨RX9, "sells", "(II)I"⟩
abbrev cX9_ill : ByteArray := prog_11_method_33_code
def yX9_ill : MethodName := ⟨RX9, "ill", "(II)Z"⟩
abbrev cX9_stop : ByteArray := prog_11_method_34_code
def yX9_stop : MethodName := ⟨RX9, "stop", "(IZ)Z"⟩
abbrev cX9_panel : ByteArray := prog_11_method_35_code
def yX9_panel : MethodName := ⟨RX9, "panel", "(I)I"⟩
abbrev cX9_isContract : ByteArray := prog_11_method_36_code
def yX9_isContract : MethodName := ⟨RX9, "isContract", "(I)Z"⟩
abbrev cX9_runsIn : ByteArray := prog_11_method_37_code
def yX9_runsIn : MethodName := ⟨RX9, "runsIn", "(II)Z"⟩
abbrev cX9_why : ByteArray := prog_11_method_38_code
def yX9_why : MethodName := ⟨RX9, "why", "(II)I"⟩
abbrev cX9_sign : ByteArray := prog_11_method_39_code
def yX9_sign : MethodName := ⟨RX9, "sign", "(II)I"⟩
abbrev cX9_cancel : ByteArray := prog_11_method_40_code
def yX9_cancel : MethodName := ⟨RX9, "cancel", "(I)I"⟩
abbrev cX9_miss : ByteArray := prog_11_method_41_code
def yX9_miss : MethodName := ⟨RX9, "miss", "(I)Z"⟩
abbrev cX9_isOfRun : ByteArray := prog_11_method_42_code
def yX9_isOfRun : MethodName := ⟨RX9, "isOfRun", "(II)Z"⟩
abbrev cX9_missing : ByteArray := prog_11_method_43_code
def yX9_missing : MethodName := ⟨RX9, "missing", "(I)I"⟩
abbrev cX9_send : ByteArray := prog_11_method_44_code
def yX9_send : MethodName := ⟨RX9, "send", "(I)I"⟩
abbrev cX9_prints : ByteArray := prog_11_method_45_code
def yX9_prints : MethodName := ⟨RX9, "prints", "(IZ)V"⟩
abbrev cX9_runs : ByteArray := prog_11_method_46_code
def yX9_runs : MethodName := ⟨RX9, "runs", "(I)V"⟩
abbrev cX9_week : ByteArray := prog_11_method_47_code
def yX9_week : MethodName := ⟨RX9, "week", "()V"⟩
abbrev cX9_weeks : ByteArray := prog_11_method_48_code
def yX9_weeks : MethodName := ⟨RX9, "weeks", "(I)I"⟩
abbrev cX9_weeksIn : ByteArray := prog_11_method_49_code
def yX9_weeksIn : MethodName := ⟨RX9, "weeksIn", "(II)I"⟩
abbrev cX9_billOf : ByteArray := prog_11_method_50_code
def yX9_billOf : MethodName := ⟨RX9, "billOf", "(II)I"⟩
abbrev cX9_bill : ByteArray := prog_11_method_51_code
def yX9_bill : MethodName := ⟨RX9, "bill", "(II)I"⟩
abbrev cX9_bills : ByteArray := prog_11_method_52_code
def yX9_bills : MethodName := ⟨RX9, "bills", "(I)V"⟩
abbrev cX9_right : ByteArray := prog_11_method_53_code
def yX9_right : MethodName := ⟨RX9, "right", "(III)I"⟩
abbrev cX9_income : ByteArray := prog_11_method_54_code
def yX9_income : MethodName := ⟨RX9, "income", "(I)I"⟩
abbrev cX9_share : ByteArray := prog_11_method_55_code
def yX9_share : MethodName := ⟨RX9, "share", "(II)I"⟩
abbrev cX9_gap : ByteArray := prog_11_method_56_code
def yX9_gap : MethodName := ⟨RX9, "gap", "(IZ)I"⟩
abbrev cX9_look : ByteArray := prog_11_method_57_code
def yX9_look : MethodName := ⟨RX9, "look", "(II)I"⟩
abbrev cX9_count : ByteArray := prog_11_method_58_code
def yX9_count : MethodName := ⟨RX9, "count", "(I)I"⟩
def RJx145de : String := "java/io/Serializable"
def TJx145de : u_T := fun k => match k with
  | _ => ("", "", "", false)
def tyJx145de : Nat → FieldType := fun k => match k with
  | _ => .int
abbrev wsJx145de0 : List Cond := u_ws RJx145de TJx145de 0
theorem nmJx145de : ∀ a, a < 0 → ∀ b, b < 0 → a ≠ b → (TJx145de a).2.1 ≠ (TJx145de b).2.1 := by decide +kernel
theorem tyJx145de_ok : ∀ k, k < 0 → parseFieldDescriptor (TJx145de k).2.2.1 = some (tyJx145de k) := by decide +kernel
def RJx8e188 : String := "java/lang/Cloneable"
def TJx8e188 : u_T := fun k => match k with
  | _ => ("", "", "", false)
def tyJx8e188 : Nat → FieldType := fun k => match k with
  | _ => .int
abbrev wsJx8e1880 : List Cond := u_ws RJx8e188 TJx8e188 0
theorem nmJx8e188 : ∀ a, a < 0 → ∀ b, b < 0 → a ≠ b → (TJx8e188 a).2.1 ≠ (TJx8e188 b).2.1 := by decide +kernel
theorem tyJx8e188_ok : ∀ k, k < 0 → parseFieldDescriptor (TJx8e188 k).2.2.1 = some (tyJx8e188 k) := by decide +kernel
def RJxab1ab : String := "java/lang/Iterable"
def TJxab1ab : u_T := fun k => match k with
  | _ => ("", "", "", false)
def tyJxab1ab : Nat → FieldType := fun k => match k with
  | _ => .int
abbrev wsJxab1ab0 : List Cond := u_ws RJxab1ab TJxab1ab 0
theorem nmJxab1ab : ∀ a, a < 0 → ∀ b, b < 0 → a ≠ b → (TJxab1ab a).2.1 ≠ (TJxab1ab b).2.1 := by decide +kernel
theorem tyJxab1ab_ok : ∀ k, k < 0 → parseFieldDescriptor (TJxab1ab k).2.2.1 = some (tyJxab1ab k) := by decide +kernel
def RJ9 : String := "java/lang/Math"
def TJ9 : u_T := fun k => match k with
  | _ => ("", "", "", false)
def tyJ9 : Nat → FieldType := fun k => match k with
  | _ => .int
abbrev wsJ90 : List Cond := u_ws RJ9 TJ9 0
theorem nmJ9 : ∀ a, a < 0 → ∀ b, b < 0 → a ≠ b → (TJ9 a).2.1 ≠ (TJ9 b).2.1 := by decide +kernel
theorem tyJ9_ok : ∀ k, k < 0 → parseFieldDescriptor (TJ9 k).2.2.1 = some (tyJ9 k) := by decide +kernel
abbrev cJ9_max_7cf53 : ByteArray := prog_16_method_65_code
def yJ9_max_7cf53 : MethodName := ⟨RJ9, "max", "(II)I"⟩
abbrev cJ9_min_7cf53 : ByteArray := prog_16_method_69_code
def yJ9_min_7cf53 : MethodName := ⟨RJ9, "min", "(II)I"⟩
def RJ0 : String := "java/lang/String"
def TJ0 : u_T := fun k => match k with
  | _ => ("", "", "", false)
def tyJ0 : Nat → FieldType := fun k => match k with
  | _ => .int
abbrev wsJ00 : List Cond := u_ws RJ0 TJ0 0
theorem nmJ0 : ∀ a, a < 0 → ∀ b, b < 0 → a ≠ b → (TJ0 a).2.1 ≠ (TJ0 b).2.1 := by decide +kernel
theorem tyJ0_ok : ∀ k, k < 0 → parseFieldDescriptor (TJ0 k).2.2.1 = some (tyJ0 k) := by decide +kernel
abbrev cJ0_length_8abf5 : ByteArray := prog_18_method_54_code
def yJ0_length_8abf5 : MethodName := ⟨RJ0, "length", "()I"⟩
abbrev cJ0_charAt_5068e : ByteArray := prog_18_method_56_code
def yJ0_charAt_5068e : MethodName := ⟨RJ0, "charAt", "(I)C"⟩
abbrev cJ0_coder_7d493 : ByteArray := prog_18_method_152_code
def yJ0_coder_7d493 : MethodName := ⟨RJ0, "coder", "()B"⟩
abbrev cJ0_isLatin1_aae02 : ByteArray := prog_18_method_154_code
def yJ0_isLatin1_aae02 : MethodName := ⟨RJ0, "isLatin1", "()Z"⟩
abbrev cJ0_checkIndex_df160 : ByteArray := prog_18_method_155_code
def yJ0_checkIndex_df160 : MethodName := ⟨RJ0, "checkIndex", "(II)V"⟩
def RJ1 : String := "java/lang/StringLatin1"
def TJ1 : u_T := fun k => match k with
  | _ => ("", "", "", false)
def tyJ1 : Nat → FieldType := fun k => match k with
  | _ => .int
abbrev wsJ10 : List Cond := u_ws RJ1 TJ1 0
theorem nmJ1 : ∀ a, a < 0 → ∀ b, b < 0 → a ≠ b → (TJ1 a).2.1 ≠ (TJ1 b).2.1 := by decide +kernel
theorem tyJ1_ok : ∀ k, k < 0 → parseFieldDescriptor (TJ1 k).2.2.1 = some (tyJ1 k) := by decide +kernel
abbrev cJ1_charAt_3b067 : ByteArray := prog_19_method_2_code
def yJ1_charAt_3b067 : MethodName := ⟨RJ1, "charAt", "([BI)C"⟩
def RJ2 : String := "java/lang/StringUTF16"
def TJ2 : u_T := fun k => match k with
  | _ => ("", "", "", false)
def tyJ2 : Nat → FieldType := fun k => match k with
  | _ => .int
abbrev wsJ20 : List Cond := u_ws RJ2 TJ2 0
theorem nmJ2 : ∀ a, a < 0 → ∀ b, b < 0 → a ≠ b → (TJ2 a).2.1 ≠ (TJ2 b).2.1 := by decide +kernel
theorem tyJ2_ok : ∀ k, k < 0 → parseFieldDescriptor (TJ2 k).2.2.1 = some (tyJ2 k) := by decide +kernel
abbrev cJ2_getChar_3b067 : ByteArray := prog_20_method_5_code
def yJ2_getChar_3b067 : MethodName := ⟨RJ2, "getChar", "([BI)C"⟩
abbrev cJ2_length_9d52b : ByteArray := prog_20_method_6_code
def yJ2_length_9d52b : MethodName := ⟨RJ2, "length", "([B)I"⟩
abbrev cJ2_charAt_3b067 : ByteArray := prog_20_method_83_code
def yJ2_charAt_3b067 : MethodName := ⟨RJ2, "charAt", "([BI)C"⟩
abbrev cJ2_checkIndex_2214a : ByteArray := prog_20_method_91_code
def yJ2_checkIndex_2214a : MethodName := ⟨RJ2, "checkIndex", "(I[B)V"⟩
def RJ10 : String := "java/lang/System"
def TJ10 : u_T := fun k => match k with
  | _ => ("", "", "", false)
def tyJ10 : Nat → FieldType := fun k => match k with
  | _ => .int
abbrev wsJ100 : List Cond := u_ws RJ10 TJ10 0
theorem nmJ10 : ∀ a, a < 0 → ∀ b, b < 0 → a ≠ b → (TJ10 a).2.1 ≠ (TJ10 b).2.1 := by decide +kernel
theorem tyJ10_ok : ∀ k, k < 0 → parseFieldDescriptor (TJ10 k).2.2.1 = some (tyJ10 k) := by decide +kernel
def RJxa1e45 : String := "java/util/AbstractCollection"
def TJxa1e45 : u_T := fun k => match k with
  | _ => ("", "", "", false)
def tyJxa1e45 : Nat → FieldType := fun k => match k with
  | _ => .int
abbrev wsJxa1e450 : List Cond := u_ws RJxa1e45 TJxa1e45 0
theorem nmJxa1e45 : ∀ a, a < 0 → ∀ b, b < 0 → a ≠ b → (TJxa1e45 a).2.1 ≠ (TJxa1e45 b).2.1 := by decide +kernel
theorem tyJxa1e45_ok : ∀ k, k < 0 → parseFieldDescriptor (TJxa1e45 k).2.2.1 = some (tyJxa1e45 k) := by decide +kernel
abbrev cJxa1e45_init_da8c8 : ByteArray := prog_23_method_1_code
def yJxa1e45_init_da8c8 : MethodName := ⟨RJxa1e45, "<init>", "()V"⟩
def RJxc12de : String := "java/util/AbstractList"
def TJxc12de : u_T := fun k => match k with
  | _ => ("", "", "", false)
def tyJxc12de : Nat → FieldType := fun k => match k with
  | _ => .int
abbrev wsJxc12de0 : List Cond := u_ws RJxc12de TJxc12de 0
theorem nmJxc12de : ∀ a, a < 0 → ∀ b, b < 0 → a ≠ b → (TJxc12de a).2.1 ≠ (TJxc12de b).2.1 := by decide +kernel
theorem tyJxc12de_ok : ∀ k, k < 0 → parseFieldDescriptor (TJxc12de k).2.2.1 = some (tyJxc12de k) := by decide +kernel
abbrev cJxc12de_init_da8c8 : ByteArray := prog_24_method_1_code
def yJxc12de_init_da8c8 : MethodName := ⟨RJxc12de, "<init>", "()V"⟩
def RJx4a65c : String := "java/util/ArrayList"
def TJx4a65c : u_T := fun k => match k with
  | 0 => ("java/util/AbstractList", "modCount", "I", false)
  | 1 => ("java/util/ArrayList", "elementData", "[Ljava/lang/Object;", false)
  | _ => ("java/util/ArrayList", "size", "I", false)
def tyJx4a65c : Nat → FieldType := fun k => match k with
  | 0 => .int
  | 1 => .array (.object "java/lang/Object")
  | _ => .int
abbrev wsJx4a65c0 : List Cond := u_ws RJx4a65c TJx4a65c 3
theorem nmJx4a65c : ∀ a, a < 3 → ∀ b, b < 3 → a ≠ b → (TJx4a65c a).2.1 ≠ (TJx4a65c b).2.1 := by decide +kernel
theorem tyJx4a65c_ok : ∀ k, k < 3 → parseFieldDescriptor (TJx4a65c k).2.2.1 = some (tyJx4a65c k) := by decide +kernel
abbrev cJx4a65c_init_da8c8 : ByteArray := prog_25_method_2_code
def yJx4a65c_init_da8c8 : MethodName := ⟨RJx4a65c, "<init>", "()V"⟩
abbrev cJx4a65c_grow_92f84 : ByteArray := prog_25_method_6_code
def yJx4a65c_grow_92f84 : MethodName := ⟨RJx4a65c, "grow", "(I)[Ljava/lang/Object;"⟩
abbrev cJx4a65c_grow_d5877 : ByteArray := prog_25_method_7_code
def yJx4a65c_grow_d5877 : MethodName := ⟨RJx4a65c, "grow", "()[Ljava/lang/Object;"⟩
abbrev cJx4a65c_size_8abf5 : ByteArray := prog_25_method_8_code
def yJx4a65c_size_8abf5 : MethodName := ⟨RJx4a65c, "size", "()I"⟩
abbrev cJx4a65c_elementData_915e3 : ByteArray := prog_25_method_18_code
def yJx4a65c_elementData_915e3 : MethodName := ⟨RJx4a65c, "elementData", "(I)Ljava/lang/Object;"⟩
abbrev cJx4a65c_get_915e3 : ByteArray := prog_25_method_20_code
def yJx4a65c_get_915e3 : MethodName := ⟨RJx4a65c, "get", "(I)Ljava/lang/Object;"⟩
abbrev cJx4a65c_add_72be8 : ByteArray := prog_25_method_24_code
def yJx4a65c_add_72be8 : MethodName := ⟨RJx4a65c, "add", "(Ljava/lang/Object;[Ljava/lang/Object;I)V"⟩
abbrev cJx4a65c_add_9ea2d : ByteArray := prog_25_method_25_code
def yJx4a65c_add_9ea2d : MethodName := ⟨RJx4a65c, "add", "(Ljava/lang/Object;)Z"⟩
def RJ7 : String := "java/util/Arrays"
def TJ7 : u_T := fun k => match k with
  | _ => ("", "", "", false)
def tyJ7 : Nat → FieldType := fun k => match k with
  | _ => .int
abbrev wsJ70 : List Cond := u_ws RJ7 TJ7 0
theorem nmJ7 : ∀ a, a < 0 → ∀ b, b < 0 → a ≠ b → (TJ7 a).2.1 ≠ (TJ7 b).2.1 := by decide +kernel
theorem tyJ7_ok : ∀ k, k < 0 → parseFieldDescriptor (TJ7 k).2.2.1 = some (tyJ7 k) := by decide +kernel
abbrev cJ7_fill_53178 : ByteArray := prog_26_method_103_code
def yJ7_fill_53178 : MethodName := ⟨RJ7, "fill", "([II)V"⟩
abbrev cJ7_copyOf_1904c : ByteArray := prog_26_method_119_code
def yJ7_copyOf_1904c : MethodName := ⟨RJ7, "copyOf", "([Ljava/lang/Object;I)[Ljava/lang/Object;"⟩
abbrev cJ7_copyOf_6403c : ByteArray := prog_26_method_120_code
def yJ7_copyOf_6403c : MethodName := ⟨RJ7, "copyOf", "([Ljava/lang/Object;ILjava/lang/Class;)[Ljava/lang/Object;"⟩
abbrev cJ7_copyOf_59c91 : ByteArray := prog_26_method_123_code
def yJ7_copyOf_59c91 : MethodName := ⟨RJ7, "copyOf", "([II)[I"⟩
def RJx5ef63 : String := "java/util/Collection"
def TJx5ef63 : u_T := fun k => match k with
  | _ => ("", "", "", false)
def tyJx5ef63 : Nat → FieldType := fun k => match k with
  | _ => .int
abbrev wsJx5ef630 : List Cond := u_ws RJx5ef63 TJx5ef63 0
theorem nmJx5ef63 : ∀ a, a < 0 → ∀ b, b < 0 → a ≠ b → (TJx5ef63 a).2.1 ≠ (TJx5ef63 b).2.1 := by decide +kernel
theorem tyJx5ef63_ok : ∀ k, k < 0 → parseFieldDescriptor (TJx5ef63 k).2.2.1 = some (tyJx5ef63 k) := by decide +kernel
def RJxbd725 : String := "java/util/List"
def TJxbd725 : u_T := fun k => match k with
  | _ => ("", "", "", false)
def tyJxbd725 : Nat → FieldType := fun k => match k with
  | _ => .int
abbrev wsJxbd7250 : List Cond := u_ws RJxbd725 TJxbd725 0
theorem nmJxbd725 : ∀ a, a < 0 → ∀ b, b < 0 → a ≠ b → (TJxbd725 a).2.1 ≠ (TJxbd725 b).2.1 := by decide +kernel
theorem tyJxbd725_ok : ∀ k, k < 0 → parseFieldDescriptor (TJxbd725 k).2.2.1 = some (tyJxbd725 k) := by decide +kernel
def RJ15 : String := "java/util/Objects"
def TJ15 : u_T := fun k => match k with
  | _ => ("", "", "", false)
def tyJ15 : Nat → FieldType := fun k => match k with
  | _ => .int
abbrev wsJ150 : List Cond := u_ws RJ15 TJ15 0
theorem nmJ15 : ∀ a, a < 0 → ∀ b, b < 0 → a ≠ b → (TJ15 a).2.1 ≠ (TJ15 b).2.1 := by decide +kernel
theorem tyJ15_ok : ∀ k, k < 0 → parseFieldDescriptor (TJ15 k).2.2.1 = some (tyJ15 k) := by decide +kernel
abbrev cJ15_checkIndex_7cf53 : ByteArray := prog_30_method_17_code
def yJ15_checkIndex_7cf53 : MethodName := ⟨RJ15, "checkIndex", "(II)I"⟩
def RJxf0a74 : String := "java/util/RandomAccess"
def TJxf0a74 : u_T := fun k => match k with
  | _ => ("", "", "", false)
def tyJxf0a74 : Nat → FieldType := fun k => match k with
  | _ => .int
abbrev wsJxf0a740 : List Cond := u_ws RJxf0a74 TJxf0a74 0
theorem nmJxf0a74 : ∀ a, a < 0 → ∀ b, b < 0 → a ≠ b → (TJxf0a74 a).2.1 ≠ (TJxf0a74 b).2.1 := by decide +kernel
theorem tyJxf0a74_ok : ∀ k, k < 0 → parseFieldDescriptor (TJxf0a74 k).2.2.1 = some (tyJxf0a74 k) := by decide +kernel
def RJxa66e6 : String := "java/util/SequencedCollection"
def TJxa66e6 : u_T := fun k => match k with
  | _ => ("", "", "", false)
def tyJxa66e6 : Nat → FieldType := fun k => match k with
  | _ => .int
abbrev wsJxa66e60 : List Cond := u_ws RJxa66e6 TJxa66e6 0
theorem nmJxa66e6 : ∀ a, a < 0 → ∀ b, b < 0 → a ≠ b → (TJxa66e6 a).2.1 ≠ (TJxa66e6 b).2.1 := by decide +kernel
theorem tyJxa66e6_ok : ∀ k, k < 0 → parseFieldDescriptor (TJxa66e6 k).2.2.1 = some (tyJxa66e6 k) := by decide +kernel
def RJ8 : String := "jdk/internal/util/ArraysSupport"
def TJ8 : u_T := fun k => match k with
  | _ => ("", "", "", false)
def tyJ8 : Nat → FieldType := fun k => match k with
  | _ => .int
abbrev wsJ80 : List Cond := u_ws RJ8 TJ8 0
theorem nmJ8 : ∀ a, a < 0 → ∀ b, b < 0 → a ≠ b → (TJ8 a).2.1 ≠ (TJ8 b).2.1 := by decide +kernel
theorem tyJ8_ok : ∀ k, k < 0 → parseFieldDescriptor (TJ8 k).2.2.1 = some (tyJ8 k) := by decide +kernel
abbrev cJ8_newLength_cabcc : ByteArray := prog_33_method_27_code
def yJ8_newLength_cabcc : MethodName := ⟨RJ8, "newLength", "(III)I"⟩
abbrev cJ8_hugeLength_7cf53 : ByteArray := prog_33_method_28_code
def yJ8_hugeLength_7cf53 : MethodName := ⟨RJ8, "hugeLength", "(II)I"⟩
def RJ3 : String := "jdk/internal/util/Preconditions"
def TJ3 : u_T := fun k => match k with
  | _ => ("", "", "", false)
def tyJ3 : Nat → FieldType := fun k => match k with
  | _ => .int
abbrev wsJ30 : List Cond := u_ws RJ3 TJ3 0
theorem nmJ3 : ∀ a, a < 0 → ∀ b, b < 0 → a ≠ b → (TJ3 a).2.1 ≠ (TJ3 b).2.1 := by decide +kernel
theorem tyJ3_ok : ∀ k, k < 0 → parseFieldDescriptor (TJ3 k).2.2.1 = some (tyJ3 k) := by decide +kernel
abbrev cJ3_checkIndex_8e157 : ByteArray := prog_34_method_11_code
def yJ3_checkIndex_8e157 : MethodName := ⟨RJ3, "checkIndex", "(IILjava/util/function/BiFunction;)I"⟩
def RL : String := "PanelHouseLaw"
abbrev cL_right : ByteArray := method_3_code
def yL_right : MethodName := ⟨RL, "right", "(LPanelHouse;III[J)I"⟩
abbrev cL_look : ByteArray := method_4_code
def yL_look : MethodName := ⟨RL, "look", "(LPanelHouse;II[J)I"⟩
abbrev cL_income : ByteArray := method_5_code
def yL_income : MethodName := ⟨RL, "income", "(LPanelHouse;I[J)I"⟩
abbrev cL_law : ByteArray := code
def yL_law : MethodName := ⟨RL, "law", "([I)Z"⟩
abbrev vwCl : List vw_C := [(RJx4a65c, TJx4a65c, 3), (RX0, TX0, 11), (RX1, TX1, 9), (RX2, TX2, 4), (RX3, TX3, 2), (RX4, TX4, 3), (RX5, TX5, 2), (RX6, TX6, 7), (RX7, TX7, 3), (RX8, TX8, 10), (RX9, TX9, 54)]
