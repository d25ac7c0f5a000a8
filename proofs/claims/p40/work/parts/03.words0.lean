-- 03.words0
section
/-! ===== BEGIN printed: names, fields, word lists, decode rows ===== -/
def RX0 : String := "HushWatch$Book"
def TX0 : u_T := fun k => match k with
  | _ => ("HushWatch$Book", "lines", "[I", true)
def tyX0 : Nat → FieldType := fun k => match k with
  | _ => .array .int
abbrev wsX00 : List Cond := u_ws RX0 TX0 1
theorem nmX0 : ∀ a, a < 1 → ∀ b, b < 1 → a ≠ b → (TX0 a).2.1 ≠ (TX0 b).2.1 := by decide +kernel
theorem tyX0_ok : ∀ k, k < 1 → parseFieldDescriptor (TX0 k).2.2.1 = some (tyX0 k) := by decide +kernel
abbrev cX0_init : ByteArray := prog_2_method_1_code
def yX0_init : MethodName := ⟨RX0, "<init>", "()V"⟩
abbrev cX0_write : ByteArray := prog_2_method_2_code
def yX0_write : MethodName := ⟨RX0, "write", "(IIII)V"⟩
abbrev cX0_read : ByteArray := prog_2_method_3_code
def yX0_read : MethodName := ⟨RX0, "read", "(II)I"⟩
abbrev cX0_copyFrom : ByteArray := prog_2_method_4_code
def yX0_copyFrom : MethodName := ⟨RX0, "copyFrom", "(LHushWatch$Book;)V"⟩
def RX1 : String := "HushWatch$Draws"
def TX1 : u_T := fun k => match k with
  | 0 => ("HushWatch$Draws", "x", "J", false)
  | 1 => ("HushWatch$Draws", "sort", "I", false)
  | 2 => ("HushWatch$Draws", "a", "I", false)
  | 3 => ("HushWatch$Draws", "b", "I", false)
  | _ => ("HushWatch$Draws", "c", "I", false)
def tyX1 : Nat → FieldType := fun k => match k with
  | 0 => .long
  | 1 => .int
  | 2 => .int
  | 3 => .int
  | _ => .int
abbrev wsX10 : List Cond := u_ws RX1 TX1 5
theorem nmX1 : ∀ a, a < 5 → ∀ b, b < 5 → a ≠ b → (TX1 a).2.1 ≠ (TX1 b).2.1 := by decide +kernel
theorem tyX1_ok : ∀ k, k < 5 → parseFieldDescriptor (TX1 k).2.2.1 = some (tyX1 k) := by decide +kernel
abbrev cX1_init : ByteArray := prog_3_method_1_code
def yX1_init : MethodName := ⟨RX1, "<init>", "()V"⟩
abbrev cX1_pickAct : ByteArray := prog_3_method_2_code
def yX1_pickAct : MethodName := ⟨RX1, "pickAct", "(I)V"⟩
abbrev cX1_next : ByteArray := prog_3_method_3_code
def yX1_next : MethodName := ⟨RX1, "next", "(I)I"⟩
def RX2 : String := "HushWatch$History"
def TX2 : u_T := fun k => match k with
  | 0 => ("HushWatch$History", "rows", "[I", true)
  | 1 => ("HushWatch$History", "next", "I", false)
  | _ => ("HushWatch$History", "held", "I", false)
def tyX2 : Nat → FieldType := fun k => match k with
  | 0 => .array .int
  | 1 => .int
  | _ => .int
abbrev wsX20 : List Cond := u_ws RX2 TX2 3
theorem nmX2 : ∀ a, a < 3 → ∀ b, b < 3 → a ≠ b → (TX2 a).2.1 ≠ (TX2 b).2.1 := by decide +kernel
theorem tyX2_ok : ∀ k, k < 3 → parseFieldDescriptor (TX2 k).2.2.1 = some (tyX2 k) := by decide +kernel
abbrev cX2_init : ByteArray := prog_4_method_1_code
def yX2_init : MethodName := ⟨RX2, "<init>", "()V"⟩
abbrev cX2_keep : ByteArray := prog_4_method_2_code
def yX2_keep : MethodName := ⟨RX2, "keep", "(LHushWatch$State;)V"⟩
abbrev cX2_bringBack : ByteArray := prog_4_method_3_code
def yX2_bringBack : MethodName := ⟨RX2, "bringBack", "(LHushWatch$State;)Z"⟩
abbrev cX2_forget : ByteArray := prog_4_method_4_code
def yX2_forget : MethodName := ⟨RX2, "forget", "()V"⟩
def RX3 : String := "HushWatch$Reader"
def TX3 : u_T := fun k => match k with
  | 0 => ("HushWatch$Reader", "tape", "LHushWatch$Tape;", true)
  | 1 => ("HushWatch$Reader", "rules", "[I", true)
  | 2 => ("HushWatch$Reader", "places", "[I", true)
  | 3 => ("HushWatch$Reader", "steps", "[I", true)
  | 4 => ("HushWatch$Reader", "siteCount", "I", false)
  | 5 => ("HushWatch$Reader", "stepCount", "I", false)
  | 6 => ("HushWatch$Reader", "seenRules", "I", false)
  | 7 => ("HushWatch$Reader", "at", "I", false)
  | 8 => ("HushWatch$Reader", "wordStart", "I", false)
  | 9 => ("HushWatch$Reader", "number", "I", false)
  | _ => ("HushWatch$Reader", "failed", "I", false)
def tyX3 : Nat → FieldType := fun k => match k with
  | 0 => .object "HushWatch$Tape"
  | 1 => .array .int
  | 2 => .array .int
  | 3 => .array .int
  | 4 => .int
  | 5 => .int
  | 6 => .int
  | 7 => .int
  | 8 => .int
  | 9 => .int
  | _ => .int
abbrev wsX30 : List Cond := u_ws RX3 TX3 11
theorem nmX3 : ∀ a, a < 11 → ∀ b, b < 11 → a ≠ b → (TX3 a).2.1 ≠ (TX3 b).2.1 := by decide +kernel
theorem tyX3_ok : ∀ k, k < 11 → parseFieldDescriptor (TX3 k).2.2.1 = some (tyX3 k) := by decide +kernel
abbrev cX3_init : ByteArray := prog_5_method_1_code
def yX3_init : MethodName := ⟨RX3, "<init>", "(LHushWatch$Tape;)V"⟩
abbrev cX3_readWatch : ByteArray := prog_5_method_2_code
def yX3_readWatch : MethodName := ⟨RX3, "readWatch", "()I"⟩
abbrev cX3_readScript : ByteArray := prog_5_method_3_code
def yX3_readScript : MethodName := ⟨RX3, "readScript", "()I"⟩
abbrev cX3_start : ByteArray := prog_5_method_4_code
def yX3_start : MethodName := ⟨RX3, "start", "()V"⟩
abbrev cX3_readClause : ByteArray := prog_5_method_5_code
def yX3_readClause : MethodName := ⟨RX3, "readClause", "()Z"⟩
abbrev cX3_ruleOfWord : ByteArray := prog_5_method_6_code
def yX3_ruleOfWord : MethodName := ⟨RX3, "ruleOfWord", "()I"⟩
abbrev cX3_readSite : ByteArray := prog_5_method_7_code
def yX3_readSite : MethodName := ⟨RX3, "readSite", "()Z"⟩
abbrev cX3_readStep : ByteArray := prog_5_method_8_code
def yX3_readStep : MethodName := ⟨RX3, "readStep", "()Z"⟩
abbrev cX3_startStep : ByteArray := prog_5_method_9_code
def yX3_startStep : MethodName := ⟨RX3, "startStep", "(I)V"⟩
abbrev cX3_putInStep : ByteArray := prog_5_method_10_code
def yX3_putInStep : MethodName := ⟨RX3, "putInStep", "(II)V"⟩
abbrev cX3_stepOfWord : ByteArray := prog_5_method_11_code
def yX3_stepOfWord : MethodName := ⟨RX3, "stepOfWord", "()I"⟩
abbrev cX3_readLaw : ByteArray := prog_5_method_12_code
def yX3_readLaw : MethodName := ⟨RX3, "readLaw", "()Z"⟩
abbrev cX3_lawOfWord : ByteArray := prog_5_method_13_code
def yX3_lawOfWord : MethodName := ⟨RX3, "lawOfWord", "()I"⟩
abbrev cX3_readWord : ByteArray := prog_5_method_14_code
def yX3_readWord : MethodName := ⟨RX3, "readWord", "()Z"⟩
abbrev cX3_isWord : ByteArray := prog_5_method_15_code
def yX3_isWord : MethodName := ⟨RX3, "isWord", "(Ljava/lang/String;)Z"⟩
abbrev cX3_readNumber : ByteArray := prog_5_method_16_code
def yX3_readNumber : MethodName := ⟨RX3, "readNumber", "(II)Z"⟩
abbrev cX3_readSign : ByteArray := prog_5_method_17_code
def yX3_readSign : MethodName := ⟨RX3, "readSign", "(C)Z"⟩
abbrev cX3_isAtEnd : ByteArray := prog_5_method_18_code
def yX3_isAtEnd : MethodName := ⟨RX3, "isAtEnd", "()Z"⟩
abbrev cX3_skipBlanks : ByteArray := prog_5_method_19_code
def yX3_skipBlanks : MethodName := ⟨RX3, "skipBlanks", "()V"⟩
abbrev cX3_failAt : ByteArray := prog_5_method_20_code
def yX3_failAt : MethodName := ⟨RX3, "failAt", "(I)Z"⟩
abbrev cX3_isLetter : ByteArray := prog_5_method_21_code
def yX3_isLetter : MethodName := ⟨RX3, "isLetter", "(I)Z"⟩
abbrev cX3_isDigit : ByteArray := prog_5_method_22_code
def yX3_isDigit : MethodName := ⟨RX3, "isDigit", "(I)Z"⟩
def RX4 : String := "HushWatch$Scripts"
def TX4 : u_T := fun k => match k with
  | 0 => ("HushWatch$Scripts", "steps", "[I", true)
  | 1 => ("HushWatch$Scripts", "counts", "[I", true)
  | _ => ("HushWatch$Scripts", "held", "I", false)
def tyX4 : Nat → FieldType := fun k => match k with
  | 0 => .array .int
  | 1 => .array .int
  | _ => .int
abbrev wsX40 : List Cond := u_ws RX4 TX4 3
theorem nmX4 : ∀ a, a < 3 → ∀ b, b < 3 → a ≠ b → (TX4 a).2.1 ≠ (TX4 b).2.1 := by decide +kernel
theorem tyX4_ok : ∀ k, k < 3 → parseFieldDescriptor (TX4 k).2.2.1 = some (tyX4 k) := by decide +kernel
abbrev cX4_init : ByteArray := prog_6_method_1_code
def yX4_init : MethodName := ⟨RX4, "<init>", "()V"⟩
abbrev cX4_areFull : ByteArray := prog_6_method_2_code
def yX4_areFull : MethodName := ⟨RX4, "areFull", "()Z"⟩
abbrev cX4_keep : ByteArray := prog_6_method_3_code
def yX4_keep : MethodName := ⟨RX4, "keep", "(LHushWatch$Reader;)V"⟩
abbrev cX4_has : ByteArray := prog_6_method_4_code
def yX4_has : MethodName := ⟨RX4, "has", "(I)Z"⟩
abbrev cX4_stepsOf : ByteArray := prog_6_method_5_code
def yX4_stepsOf : MethodName := ⟨RX4, "stepsOf", "(I)I"⟩
abbrev cX4_read : ByteArray := prog_6_method_6_code
def yX4_read : MethodName := ⟨RX4, "read", "(III)I"⟩
abbrev cX4_sortOf : ByteArray := prog_6_method_7_code
def yX4_sortOf : MethodName := ⟨RX4, "sortOf", "(II)I"⟩
def RX5 : String := "HushWatch$State"
def TX5 : u_T := fun k => match k with
  | 0 => ("HushWatch$State", "row", "[I", true)
  | 1 => ("HushWatch$State", "partners", "[I", true)
  | 2 => ("HushWatch$State", "askedCount", "I", false)
  | 3 => ("HushWatch$State", "outcome", "I", false)
  | 4 => ("HushWatch$State", "share", "[I", true)
  | _ => ("HushWatch$State", "leftOver", "[I", true)
def tyX5 : Nat → FieldType := fun k => match k with
  | 0 => .array .int
  | 1 => .array .int
  | 2 => .int
  | 3 => .int
  | 4 => .array .int
  | _ => .array .int
abbrev wsX50 : List Cond := u_ws RX5 TX5 6
theorem nmX5 : ∀ a, a < 6 → ∀ b, b < 6 → a ≠ b → (TX5 a).2.1 ≠ (TX5 b).2.1 := by decide +kernel
theorem tyX5_ok : ∀ k, k < 6 → parseFieldDescriptor (TX5 k).2.2.1 = some (tyX5 k) := by decide +kernel
abbrev cX5_init : ByteArray := prog_7_method_1_code
def yX5_init : MethodName := ⟨RX5, "<init>", "()V"⟩
abbrev cX5_begin : ByteArray := prog_7_method_2_code
def yX5_begin : MethodName := ⟨RX5, "begin", "(LHushWatch$Reader;)V"⟩
abbrev cX5_copyFrom : ByteArray := prog_7_method_3_code
def yX5_copyFrom : MethodName := ⟨RX5, "copyFrom", "(LHushWatch$State;)V"⟩
abbrev cX5_stands : ByteArray := prog_7_method_4_code
def yX5_stands : MethodName := ⟨RX5, "stands", "()Z"⟩
abbrev cX5_sites : ByteArray := prog_7_method_5_code
def yX5_sites : MethodName := ⟨RX5, "sites", "()I"⟩
abbrev cX5_hasSite : ByteArray := prog_7_method_6_code
def yX5_hasSite : MethodName := ⟨RX5, "hasSite", "(I)Z"⟩
abbrev cX5_of : ByteArray := prog_7_method_7_code
def yX5_of : MethodName := ⟨RX5, "of", "(II)I"⟩
abbrev cX5_put : ByteArray := prog_7_method_8_code
def yX5_put : MethodName := ⟨RX5, "put", "(III)V"⟩
abbrev cX5_total : ByteArray := prog_7_method_9_code
def yX5_total : MethodName := ⟨RX5, "total", "(I)I"⟩
abbrev cX5_drift : ByteArray := prog_7_method_10_code
def yX5_drift : MethodName := ⟨RX5, "drift", "(II)I"⟩
abbrev cX5_point : ByteArray := prog_7_method_11_code
def yX5_point : MethodName := ⟨RX5, "point", "(II)I"⟩
abbrev cX5_valueOf : ByteArray := prog_7_method_12_code
def yX5_valueOf : MethodName := ⟨RX5, "valueOf", "(JJ)J"⟩
abbrev cX5_allows : ByteArray := prog_7_method_13_code
def yX5_allows : MethodName := ⟨RX5, "allows", "(JJ)Z"⟩
abbrev cX5_isAbove : ByteArray := prog_7_method_14_code
def yX5_isAbove : MethodName := ⟨RX5, "isAbove", "()Z"⟩
abbrev cX5_isFrozen : ByteArray := prog_7_method_15_code
def yX5_isFrozen : MethodName := ⟨RX5, "isFrozen", "(I)Z"⟩
abbrev cX5_isQuietDrift : ByteArray := prog_7_method_16_code
def yX5_isQuietDrift : MethodName := ⟨RX5, "isQuietDrift", "(II)Z"⟩
abbrev cX5_isQuietWith : ByteArray := prog_7_method_17_code
def yX5_isQuietWith : MethodName := ⟨RX5, "isQuietWith", "(III)Z"⟩
abbrev cX5_isQuiet : ByteArray := prog_7_method_18_code
def yX5_isQuiet : MethodName := ⟨RX5, "isQuiet", "(I)Z"⟩
abbrev cX5_pointValue : ByteArray := prog_7_method_19_code
def yX5_pointValue : MethodName := ⟨RX5, "pointValue", "(III)J"⟩
abbrev cX5_slackLength : ByteArray := prog_7_method_20_code
def yX5_slackLength : MethodName := ⟨RX5, "slackLength", "(I)I"⟩
abbrev cX5_hasRoom : ByteArray := prog_7_method_21_code
def yX5_hasRoom : MethodName := ⟨RX5, "hasRoom", "(III)Z"⟩
abbrev cX5_quietSites : ByteArray := prog_7_method_22_code
def yX5_quietSites : MethodName := ⟨RX5, "quietSites", "()I"⟩
abbrev cX5_slackSites : ByteArray := prog_7_method_23_code
def yX5_slackSites : MethodName := ⟨RX5, "slackSites", "()I"⟩
abbrev cX5_unmovedSites : ByteArray := prog_7_method_24_code
def yX5_unmovedSites : MethodName := ⟨RX5, "unmovedSites", "()I"⟩
abbrev cX5_refusal : ByteArray := prog_7_method_25_code
def yX5_refusal : MethodName := ⟨RX5, "refusal", "(IIII)I"⟩
abbrev cX5_moveRefusal : ByteArray := prog_7_method_26_code
def yX5_moveRefusal : MethodName := ⟨RX5, "moveRefusal", "(III)I"⟩
abbrev cX5_setRefusal : ByteArray := prog_7_method_27_code
def yX5_setRefusal : MethodName := ⟨RX5, "setRefusal", "(IIII)I"⟩
abbrev cX5_addRefusal : ByteArray := prog_7_method_28_code
def yX5_addRefusal : MethodName := ⟨RX5, "addRefusal", "(II)I"⟩
abbrev cX5_freezeRefusal : ByteArray := prog_7_method_29_code
def yX5_freezeRefusal : MethodName := ⟨RX5, "freezeRefusal", "(I)I"⟩
abbrev cX5_doAct : ByteArray := prog_7_method_30_code
def yX5_doAct : MethodName := ⟨RX5, "doAct", "(IIII)I"⟩
abbrev cX5_shift : ByteArray := prog_7_method_31_code
def yX5_shift : MethodName := ⟨RX5, "shift", "(III)V"⟩
abbrev cX5_moveSite : ByteArray := prog_7_method_32_code
def yX5_moveSite : MethodName := ⟨RX5, "moveSite", "(III)I"⟩
abbrev cX5_noteAsked : ByteArray := prog_7_method_33_code
def yX5_noteAsked : MethodName := ⟨RX5, "noteAsked", "(I)V"⟩
abbrev cX5_canShare : ByteArray := prog_7_method_34_code
def yX5_canShare : MethodName := ⟨RX5, "canShare", "(I)Z"⟩
abbrev cX5_measureShares : ByteArray := prog_7_method_35_code
def yX5_measureShares : MethodName := ⟨RX5, "measureShares", "(I)V"⟩
abbrev cX5_shareOf : ByteArray := prog_7_method_36_code
def yX5_shareOf : MethodName := ⟨RX5, "shareOf", "(II)I"⟩
abbrev cX5_balance : ByteArray := prog_7_method_37_code
def yX5_balance : MethodName := ⟨RX5, "balance", "(I)I"⟩
abbrev cX5_hearByHand : ByteArray := prog_7_method_38_code
def yX5_hearByHand : MethodName := ⟨RX5, "hearByHand", "()I"⟩
abbrev cX5_hearAll : ByteArray := prog_7_method_39_code
def yX5_hearAll : MethodName := ⟨RX5, "hearAll", "()V"⟩
abbrev cX5_hearPlaces : ByteArray := prog_7_method_40_code
def yX5_hearPlaces : MethodName := ⟨RX5, "hearPlaces", "()V"⟩
abbrev cX5_isReached : ByteArray := prog_7_method_41_code
def yX5_isReached : MethodName := ⟨RX5, "isReached", "()Z"⟩
abbrev cX5_stepFrom : ByteArray := prog_7_method_42_code
def yX5_stepFrom : MethodName := ⟨RX5, "stepFrom", "(I)I"⟩
abbrev cX5_addTo : ByteArray := prog_7_method_43_code
def yX5_addTo : MethodName := ⟨RX5, "addTo", "(II)I"⟩
abbrev cX5_endRound : ByteArray := prog_7_method_44_code
def yX5_endRound : MethodName := ⟨RX5, "endRound", "()V"⟩
abbrev cX5_startCounts : ByteArray := prog_7_method_45_code
def yX5_startCounts : MethodName := ⟨RX5, "startCounts", "(I)V"⟩
abbrev cX5_aloneToGoal : ByteArray := prog_7_method_46_code
def yX5_aloneToGoal : MethodName := ⟨RX5, "aloneToGoal", "(IZ)I"⟩
def RX6 : String := "HushWatch$Tape"
def TX6 : u_T := fun k => match k with
  | 0 => ("HushWatch$Tape", "bytes", "[B", true)
  | _ => ("HushWatch$Tape", "length", "I", false)
def tyX6 : Nat → FieldType := fun k => match k with
  | 0 => .array .byte
  | _ => .int
abbrev wsX60 : List Cond := u_ws RX6 TX6 2
theorem nmX6 : ∀ a, a < 2 → ∀ b, b < 2 → a ≠ b → (TX6 a).2.1 ≠ (TX6 b).2.1 := by decide +kernel
theorem tyX6_ok : ∀ k, k < 2 → parseFieldDescriptor (TX6 k).2.2.1 = some (tyX6 k) := by decide +kernel
abbrev cX6_init : ByteArray := prog_8_method_1_code
def yX6_init : MethodName := ⟨RX6, "<init>", "()V"⟩
abbrev cX6_bytesIn : ByteArray := prog_8_method_2_code
def yX6_bytesIn : MethodName := ⟨RX6, "bytesIn", "(I)I"⟩
abbrev cX6_take : ByteArray := prog_8_method_3_code
def yX6_take : MethodName := ⟨RX6, "take", "(I)V"⟩
abbrev cX6_cutTo : ByteArray := prog_8_method_4_code
def yX6_cutTo : MethodName := ⟨RX6, "cutTo", "(I)Z"⟩
abbrev cX6_signAt : ByteArray := prog_8_method_5_code
def yX6_signAt : MethodName := ⟨RX6, "signAt", "(I)I"⟩
def RX7 : String := "HushWatch"
def TX7 : u_T := fun k => match k with
  | 0 => ("HushWatch", "tape", "LHushWatch$Tape;", true)
  | 1 => ("HushWatch", "reader", "LHushWatch$Reader;", true)
  | 2 => ("HushWatch", "scripts", "LHushWatch$Scripts;", true)
  | 3 => ("HushWatch", "now", "LHushWatch$State;", true)
  | 4 => ("HushWatch", "trial", "LHushWatch$State;", true)
  | 5 => ("HushWatch", "kept", "LHushWatch$State;", true)
  | 6 => ("HushWatch", "book", "LHushWatch$Book;", true)
  | 7 => ("HushWatch", "keptBook", "LHushWatch$Book;", true)
  | 8 => ("HushWatch", "history", "LHushWatch$History;", true)
  | 9 => ("HushWatch", "draws", "LHushWatch$Draws;", true)
  | 10 => ("HushWatch", "refused", "[I", true)
  | _ => ("HushWatch", "hasImage", "Z", false)
def tyX7 : Nat → FieldType := fun k => match k with
  | 0 => .object "HushWatch$Tape"
  | 1 => .object "HushWatch$Reader"
  | 2 => .object "HushWatch$Scripts"
  | 3 => .object "HushWatch$State"
  | 4 => .object "HushWatch$State"
  | 5 => .object "HushWatch$State"
  | 6 => .object "HushWatch$Book"
  | 7 => .object "HushWatch$Book"
  | 8 => .object "HushWatch$History"
  | 9 => .object "HushWatch$Draws"
  | 10 => .array .int
  | _ => .boolean
abbrev wsX70 : List Cond := u_ws RX7 TX7 12
theorem nmX7 : ∀ a, a < 12 → ∀ b, b < 12 → a ≠ b → (TX7 a).2.1 ≠ (TX7 b).2.1 := by decide +kernel
theorem tyX7_ok : ∀ k, k < 12 → parseFieldDescriptor (TX7 k).2.2.1 = some (tyX7 k) := by decide +kernel
abbrev cX7_init : ByteArray := prog_1_method_1_code
def yX7_init : MethodName := ⟨RX7, "<init>", "()V"⟩
abbrev cX7_feed : ByteArray := prog_1_method_2_code
def yX7_feed : MethodName := ⟨RX7, "feed", "(IIIII)I"⟩
abbrev cX7_end : ByteArray := prog_1_method_3_code
def yX7_end : MethodName := ⟨RX7, "end", "(I)Z"⟩
abbrev cX7_fault : ByteArray := prog_1_method_4_code
def yX7_fault : MethodName := ⟨RX7, "fault", "(I)I"⟩
abbrev cX7_text : ByteArray := prog_1_method_5_code
def yX7_text : MethodName := ⟨RX7, "text", "(I)I"⟩
abbrev cX7_rule : ByteArray := prog_1_method_6_code
def yX7_rule : MethodName := ⟨RX7, "rule", "(I)I"⟩
abbrev cX7_site : ByteArray := prog_1_method_7_code
def yX7_site : MethodName := ⟨RX7, "site", "(II)I"⟩
abbrev cX7_value : ByteArray := prog_1_method_8_code
def yX7_value : MethodName := ⟨RX7, "value", "(II)J"⟩
abbrev cX7_tells : ByteArray := prog_1_method_9_code
def yX7_tells : MethodName := ⟨RX7, "tells", "(II)Z"⟩
abbrev cX7_all : ByteArray := prog_1_method_10_code
def yX7_all : MethodName := ⟨RX7, "all", "(I)J"⟩
abbrev cX7_move : ByteArray := prog_1_method_11_code
def yX7_move : MethodName := ⟨RX7, "move", "(III)I"⟩
abbrev cX7_freeze : ByteArray := prog_1_method_12_code
def yX7_freeze : MethodName := ⟨RX7, "freeze", "(I)I"⟩
abbrev cX7_sync : ByteArray := prog_1_method_13_code
def yX7_sync : MethodName := ⟨RX7, "sync", "()I"⟩
abbrev cX7_bound : ByteArray := prog_1_method_14_code
def yX7_bound : MethodName := ⟨RX7, "bound", "(I)I"⟩
abbrev cX7_law : ByteArray := prog_1_method_15_code
def yX7_law : MethodName := ⟨RX7, "law", "(I)I"⟩
abbrev cX7_add : ByteArray := prog_1_method_16_code
def yX7_add : MethodName := ⟨RX7, "add", "(II)I"⟩
abbrev cX7_goal : ByteArray := prog_1_method_17_code
def yX7_goal : MethodName := ⟨RX7, "goal", "(I)I"⟩
abbrev cX7_count : ByteArray := prog_1_method_18_code
def yX7_count : MethodName := ⟨RX7, "count", "(I)I"⟩
abbrev cX7_years : ByteArray := prog_1_method_19_code
def yX7_years : MethodName := ⟨RX7, "years", "(IJ)I"⟩
abbrev cX7_status : ByteArray := prog_1_method_20_code
def yX7_status : MethodName := ⟨RX7, "status", "(I)I"⟩
abbrev cX7_undo : ByteArray := prog_1_method_21_code
def yX7_undo : MethodName := ⟨RX7, "undo", "()I"⟩
abbrev cX7_log : ByteArray := prog_1_method_22_code
def yX7_log : MethodName := ⟨RX7, "log", "(II)I"⟩
abbrev cX7_limit : ByteArray := prog_1_method_23_code
def yX7_limit : MethodName := ⟨RX7, "limit", "(III)I"⟩
abbrev cX7_would : ByteArray := prog_1_method_24_code
def yX7_would : MethodName := ⟨RX7, "would", "(IIII)I"⟩
abbrev cX7_asked : ByteArray := prog_1_method_25_code
def yX7_asked : MethodName := ⟨RX7, "asked", "(IIII)I"⟩
abbrev cX7_walk : ByteArray := prog_1_method_26_code
def yX7_walk : MethodName := ⟨RX7, "walk", "(IIIII)I"⟩
abbrev cX7_partner : ByteArray := prog_1_method_27_code
def yX7_partner : MethodName := ⟨RX7, "partner", "(III)I"⟩
abbrev cX7_race : ByteArray := prog_1_method_28_code
def yX7_race : MethodName := ⟨RX7, "race", "(III)I"⟩
abbrev cX7_needs : ByteArray := prog_1_method_29_code
def yX7_needs : MethodName := ⟨RX7, "needs", "(III)J"⟩
abbrev cX7_span : ByteArray := prog_1_method_30_code
def yX7_span : MethodName := ⟨RX7, "span", "(IIZ)I"⟩
abbrev cX7_goes : ByteArray := prog_1_method_31_code
def yX7_goes : MethodName := ⟨RX7, "goes", "(II)I"⟩
abbrev cX7_fair : ByteArray := prog_1_method_32_code
def yX7_fair : MethodName := ⟨RX7, "fair", "(I)I"⟩
abbrev cX7_spell : ByteArray := prog_1_method_33_code
def yX7_spell : MethodName := ⟨RX7, "spell", "(II)I"⟩
abbrev cX7_step : ByteArray := prog_1_method_34_code
def yX7_step : MethodName := ⟨RX7, "step", "(III)I"⟩
abbrev cX7_run : ByteArray := prog_1_method_35_code
def yX7_run : MethodName := ⟨RX7, "run", "(II)I"⟩
abbrev cX7_perform : ByteArray := prog_1_method_36_code
def yX7_perform : MethodName := ⟨RX7, "perform", "(I)I"⟩
abbrev cX7_most : ByteArray := prog_1_method_37_code
def yX7_most : MethodName := ⟨RX7, "most", "(I)I"⟩
abbrev cX7_image : ByteArray := prog_1_method_38_code
def yX7_image : MethodName := ⟨RX7, "image", "()I"⟩
abbrev cX7_back : ByteArray := prog_1_method_39_code
def yX7_back : MethodName := ⟨RX7, "back", "()I"⟩
abbrev cX7_held : ByteArray := prog_1_method_40_code
def yX7_held : MethodName := ⟨RX7, "held", "(I)I"⟩
abbrev cX7_beginWatch : ByteArray := prog_1_method_41_code
def yX7_beginWatch : MethodName := ⟨RX7, "beginWatch", "()I"⟩
abbrev cX7_keepScript : ByteArray := prog_1_method_42_code
def yX7_keepScript : MethodName := ⟨RX7, "keepScript", "()I"⟩
abbrev cX7_canBeAsked : ByteArray := prog_1_method_43_code
def yX7_canBeAsked : MethodName := ⟨RX7, "canBeAsked", "(II)Z"⟩
abbrev cX7_loggedActs : ByteArray := prog_1_method_44_code
def yX7_loggedActs : MethodName := ⟨RX7, "loggedActs", "()I"⟩
abbrev cX7_act : ByteArray := prog_1_method_45_code
def yX7_act : MethodName := ⟨RX7, "act", "(IIIIZ)I"⟩
abbrev cX7_tryMove : ByteArray := prog_1_method_46_code
def yX7_tryMove : MethodName := ⟨RX7, "tryMove", "(III)I"⟩
abbrev cX7_tryStep : ByteArray := prog_1_method_47_code
def yX7_tryStep : MethodName := ⟨RX7, "tryStep", "(II)Z"⟩
abbrev cX7_isMovable : ByteArray := prog_1_method_48_code
def yX7_isMovable : MethodName := ⟨RX7, "isMovable", "(II)Z"⟩
abbrev cX7_isWay : ByteArray := prog_1_method_49_code
def yX7_isWay : MethodName := ⟨RX7, "isWay", "(II)Z"⟩
def RX8 : String := "HushWatchModel"
def TX8 : u_T := fun k => match k with
  | 0 => ("HushWatchModel", "thrown", "I", false)
  | 1 => ("HushWatchModel", "tape", "[I", true)
  | 2 => ("HushWatchModel", "taped", "I", false)
  | 3 => ("HushWatchModel", "at", "I", false)
  | 4 => ("HushWatchModel", "part", "I", false)
  | 5 => ("HushWatchModel", "partFrom", "I", false)
  | 6 => ("HushWatchModel", "partNumber", "I", false)
  | 7 => ("HushWatchModel", "wrong", "I", false)
  | 8 => ("HushWatchModel", "partWord", "J", false)
  | 9 => ("HushWatchModel", "readLaw", "I", false)
  | 10 => ("HushWatchModel", "readBound", "I", false)
  | 11 => ("HushWatchModel", "readGoal", "I", false)
  | 12 => ("HushWatchModel", "readSites", "I", false)
  | 13 => ("HushWatchModel", "readPlace", "[I", true)
  | 14 => ("HushWatchModel", "script", "[I", true)
  | 15 => ("HushWatchModel", "scriptLong", "[I", true)
  | 16 => ("HushWatchModel", "scripts", "I", false)
  | 17 => ("HushWatchModel", "now", "[I", true)
  | 18 => ("HushWatchModel", "refused", "[I", true)
  | 19 => ("HushWatchModel", "sites", "I", false)
  | 20 => ("HushWatchModel", "shareX", "[I", true)
  | 21 => ("HushWatchModel", "shareY", "[I", true)
  | 22 => ("HushWatchModel", "asked", "I", false)
  | 23 => ("HushWatchModel", "outcome", "I", false)
  | 24 => ("HushWatchModel", "askedRow", "[I", true)
  | 25 => ("HushWatchModel", "took", "I", false)
  | 26 => ("HushWatchModel", "kept", "[I", true)
  | 27 => ("HushWatchModel", "acts", "I", false)
  | 28 => ("HushWatchModel", "drawn", "J", false)
  | 29 => ("HushWatchModel", "aside", "[I", true)
  | 30 => ("HushWatchModel", "racer", "I", false)
  | 31 => ("HushWatchModel", "raced", "I", false)
  | 32 => ("HushWatchModel", "spelled", "[I", true)
  | 33 => ("HushWatchModel", "spelledMany", "I", false)
  | 34 => ("HushWatchModel", "image", "[I", true)
  | _ => ("HushWatchModel", "hasImage", "Z", false)
def tyX8 : Nat → FieldType := fun k => match k with
  | 0 => .int
  | 1 => .array .int
  | 2 => .int
  | 3 => .int
  | 4 => .int
  | 5 => .int
  | 6 => .int
  | 7 => .int
  | 8 => .long
  | 9 => .int
  | 10 => .int
  | 11 => .int
  | 12 => .int
  | 13 => .array .int
  | 14 => .array .int
  | 15 => .array .int
  | 16 => .int
  | 17 => .array .int
  | 18 => .array .int
  | 19 => .int
  | 20 => .array .int
  | 21 => .array .int
  | 22 => .int
  | 23 => .int
  | 24 => .array .int
  | 25 => .int
  | 26 => .array .int
  | 27 => .int
  | 28 => .long
  | 29 => .array .int
  | 30 => .int
  | 31 => .int
  | 32 => .array .int
  | 33 => .int
  | 34 => .array .int
  | _ => .boolean
abbrev wsX80 : List Cond := u_ws RX8 TX8 36
theorem nmX8 : ∀ a, a < 36 → ∀ b, b < 36 → a ≠ b → (TX8 a).2.1 ≠ (TX8 b).2.1 := by decide +kernel
theorem tyX8_ok : ∀ k, k < 36 → parseFieldDescriptor (TX8 k).2.2.1 = some (tyX8 k) := by decide +kernel
abbrev cX8_in : ByteArray := prog_10_method_1_code
def yX8_in : MethodName := ⟨RX8, "in", "(JJJ)Z"⟩
abbrev cX8_has : ByteArray := prog_10_method_2_code
def yX8_has : MethodName := ⟨RX8, "has", "(II)Z"⟩
abbrev cX8_above : ByteArray := prog_10_method_3_code
def yX8_above : MethodName := ⟨RX8, "above", "(I)I"⟩
abbrev cX8_init : ByteArray := prog_10_method_4_code
def yX8_init : MethodName := ⟨RX8, "<init>", "()V"⟩
abbrev cX8_byteOf : ByteArray := prog_10_method_6_code
def yX8_byteOf : MethodName := ⟨RX8, "byteOf", "(IIIIII)I"⟩
abbrev cX8_feed : ByteArray := prog_10_method_7_code
def yX8_feed : MethodName := ⟨RX8, "feed", "(IIIII)I"⟩
abbrev cX8_end : ByteArray := prog_10_method_8_code
def yX8_end : MethodName := ⟨RX8, "end", "(I)Z"⟩
abbrev cX8_here : ByteArray := prog_10_method_9_code
def yX8_here : MethodName := ⟨RX8, "here", "()I"⟩
abbrev cX8_isDigit : ByteArray := prog_10_method_10_code
def yX8_isDigit : MethodName := ⟨RX8, "isDigit", "(I)Z"⟩
abbrev cX8_isLetter : ByteArray := prog_10_method_11_code
def yX8_isLetter : MethodName := ⟨RX8, "isLetter", "(I)Z"⟩
abbrev cX8_readWord : ByteArray := prog_10_method_12_code
def yX8_readWord : MethodName := ⟨RX8, "readWord", "()V"⟩
abbrev cX8_readNumber : ByteArray := prog_10_method_13_code
def yX8_readNumber : MethodName := ⟨RX8, "readNumber", "()V"⟩
abbrev cX8_next : ByteArray := prog_10_method_14_code
def yX8_next : MethodName := ⟨RX8, "next", "()V"⟩
abbrev cX8_word : ByteArray := prog_10_method_15_code
def yX8_word : MethodName := ⟨RX8, "word", "(IIIIII)J"⟩
abbrev cX8_isWord : ByteArray := prog_10_method_16_code
def yX8_isWord : MethodName := ⟨RX8, "isWord", "(J)Z"⟩
abbrev cX8_bad : ByteArray := prog_10_method_17_code
def yX8_bad : MethodName := ⟨RX8, "bad", "()V"⟩
abbrev cX8_number : ByteArray := prog_10_method_18_code
def yX8_number : MethodName := ⟨RX8, "number", "(II)I"⟩
abbrev cX8_comma : ByteArray := prog_10_method_19_code
def yX8_comma : MethodName := ⟨RX8, "comma", "()V"⟩
abbrev cX8_lawWord : ByteArray := prog_10_method_20_code
def yX8_lawWord : MethodName := ⟨RX8, "lawWord", "()I"⟩
abbrev cX8_readSite : ByteArray := prog_10_method_21_code
def yX8_readSite : MethodName := ⟨RX8, "readSite", "()V"⟩
abbrev cX8_clause : ByteArray := prog_10_method_22_code
def yX8_clause : MethodName := ⟨RX8, "clause", "(I)I"⟩
abbrev cX8_begins : ByteArray := prog_10_method_23_code
def yX8_begins : MethodName := ⟨RX8, "begins", "()V"⟩
abbrev cX8_readWatch : ByteArray := prog_10_method_24_code
def yX8_readWatch : MethodName := ⟨RX8, "readWatch", "()I"⟩
abbrev cX8_anyNumber : ByteArray := prog_10_method_25_code
def yX8_anyNumber : MethodName := ⟨RX8, "anyNumber", "()I"⟩
abbrev cX8_readStep : ByteArray := prog_10_method_26_code
def yX8_readStep : MethodName := ⟨RX8, "readStep", "(I)V"⟩
abbrev cX8_readScript : ByteArray := prog_10_method_27_code
def yX8_readScript : MethodName := ⟨RX8, "readScript", "(I)I"⟩
abbrev cX8_fault : ByteArray := prog_10_method_28_code
def yX8_fault : MethodName := ⟨RX8, "fault", "(I)I"⟩
abbrev cX8_isWatch : ByteArray := prog_10_method_29_code
def yX8_isWatch : MethodName := ⟨RX8, "isWatch", "()Z"⟩
abbrev cX8_isSite : ByteArray := prog_10_method_30_code
def yX8_isSite : MethodName := ⟨RX8, "isSite", "(I)Z"⟩
abbrev cX8_takeWatch : ByteArray := prog_10_method_31_code
def yX8_takeWatch : MethodName := ⟨RX8, "takeWatch", "()I"⟩
abbrev cX8_text : ByteArray := prog_10_method_32_code
def yX8_text : MethodName := ⟨RX8, "text", "(I)I"⟩
abbrev cX8_sum : ByteArray := prog_10_method_33_code
def yX8_sum : MethodName := ⟨RX8, "sum", "(I)I"⟩
abbrev cX8_valueOf : ByteArray := prog_10_method_34_code
def yX8_valueOf : MethodName := ⟨RX8, "valueOf", "(JJ)J"⟩
abbrev cX8_isAllowed : ByteArray := prog_10_method_35_code
def yX8_isAllowed : MethodName := ⟨RX8, "isAllowed", "(II)Z"⟩
abbrev cX8_driftX : ByteArray := prog_10_method_36_code
def yX8_driftX : MethodName := ⟨RX8, "driftX", "(I)I"⟩
abbrev cX8_driftY : ByteArray := prog_10_method_37_code
def yX8_driftY : MethodName := ⟨RX8, "driftY", "(I)I"⟩
abbrev cX8_pointX : ByteArray := prog_10_method_38_code
def yX8_pointX : MethodName := ⟨RX8, "pointX", "(I)I"⟩
abbrev cX8_pointY : ByteArray := prog_10_method_39_code
def yX8_pointY : MethodName := ⟨RX8, "pointY", "(I)I"⟩
abbrev cX8_isQuietBy : ByteArray := prog_10_method_40_code
def yX8_isQuietBy : MethodName := ⟨RX8, "isQuietBy", "(II)Z"⟩
abbrev cX8_isQuiet : ByteArray := prog_10_method_41_code
def yX8_isQuiet : MethodName := ⟨RX8, "isQuiet", "(I)Z"⟩
abbrev cX8_bits : ByteArray := prog_10_method_42_code
def yX8_bits : MethodName := ⟨RX8, "bits", "(I)I"⟩
abbrev cX8_shares : ByteArray := prog_10_method_43_code
def yX8_shares : MethodName := ⟨RX8, "shares", "(I)Z"⟩
abbrev cX8_takesShares : ByteArray := prog_10_method_44_code
def yX8_takesShares : MethodName := ⟨RX8, "takesShares", "(I)V"⟩
abbrev cX8_hearsAll : ByteArray := prog_10_method_45_code
def yX8_hearsAll : MethodName := ⟨RX8, "hearsAll", "()V"⟩
abbrev cX8_isFrozen : ByteArray := prog_10_method_46_code
def yX8_isFrozen : MethodName := ⟨RX8, "isFrozen", "(I)Z"⟩
abbrev cX8_speaks : ByteArray := prog_10_method_47_code
def yX8_speaks : MethodName := ⟨RX8, "speaks", "(I)I"⟩
abbrev cX8_movesNow : ByteArray := prog_10_method_48_code
def yX8_movesNow : MethodName := ⟨RX8, "movesNow", "(III)I"⟩
abbrev cX8_step : ByteArray := prog_10_method_49_code
def yX8_step : MethodName := ⟨RX8, "step", "()I"⟩
abbrev cX8_isReached : ByteArray := prog_10_method_50_code
def yX8_isReached : MethodName := ⟨RX8, "isReached", "()Z"⟩
abbrev cX8_endsRound : ByteArray := prog_10_method_51_code
def yX8_endsRound : MethodName := ⟨RX8, "endsRound", "()V"⟩
abbrev cX8_addsNow : ByteArray := prog_10_method_52_code
def yX8_addsNow : MethodName := ⟨RX8, "addsNow", "(II)I"⟩
abbrev cX8_whyMove : ByteArray := prog_10_method_53_code
def yX8_whyMove : MethodName := ⟨RX8, "whyMove", "(III)I"⟩
abbrev cX8_whyAdd : ByteArray := prog_10_method_54_code
def yX8_whyAdd : MethodName := ⟨RX8, "whyAdd", "(II)I"⟩
abbrev cX8_frozenOnes : ByteArray := prog_10_method_55_code
def yX8_frozenOnes : MethodName := ⟨RX8, "frozenOnes", "()I"⟩
abbrev cX8_whyFreeze : ByteArray := prog_10_method_56_code
def yX8_whyFreeze : MethodName := ⟨RX8, "whyFreeze", "(I)I"⟩
abbrev cX8_whySet : ByteArray := prog_10_method_57_code
def yX8_whySet : MethodName := ⟨RX8, "whySet", "(IIII)I"⟩
abbrev cX8_whyNot : ByteArray := prog_10_method_58_code
def yX8_whyNot : MethodName := ⟨RX8, "whyNot", "(IIII)I"⟩
abbrev cX8_setsGoal : ByteArray := prog_10_method_59_code
def yX8_setsGoal : MethodName := ⟨RX8, "setsGoal", "(I)I"⟩
abbrev cX8_setsAnd : ByteArray := prog_10_method_60_code
def yX8_setsAnd : MethodName := ⟨RX8, "setsAnd", "(II)I"⟩
abbrev cX8_doIt : ByteArray := prog_10_method_61_code
def yX8_doIt : MethodName := ⟨RX8, "doIt", "(IIII)I"⟩
abbrev cX8_doNow : ByteArray := prog_10_method_62_code
def yX8_doNow : MethodName := ⟨RX8, "doNow", "(IIII)I"⟩
abbrev cX8_keep : ByteArray := prog_10_method_63_code
def yX8_keep : MethodName := ⟨RX8, "keep", "()V"⟩
abbrev cX8_note : ByteArray := prog_10_method_64_code
def yX8_note : MethodName := ⟨RX8, "note", "(II)V"⟩
abbrev cX8_act : ByteArray := prog_10_method_65_code
def yX8_act : MethodName := ⟨RX8, "act", "(IIII)I"⟩
abbrev cX8_hand : ByteArray := prog_10_method_66_code
def yX8_hand : MethodName := ⟨RX8, "hand", "(IIIII)I"⟩
abbrev cX8_move : ByteArray := prog_10_method_67_code
def yX8_move : MethodName := ⟨RX8, "move", "(III)I"⟩
abbrev cX8_sync : ByteArray := prog_10_method_68_code
def yX8_sync : MethodName := ⟨RX8, "sync", "()I"⟩
abbrev cX8_bound : ByteArray := prog_10_method_69_code
def yX8_bound : MethodName := ⟨RX8, "bound", "(I)I"⟩
abbrev cX8_law : ByteArray := prog_10_method_70_code
def yX8_law : MethodName := ⟨RX8, "law", "(I)I"⟩
abbrev cX8_add : ByteArray := prog_10_method_71_code
def yX8_add : MethodName := ⟨RX8, "add", "(II)I"⟩
abbrev cX8_goal : ByteArray := prog_10_method_72_code
def yX8_goal : MethodName := ⟨RX8, "goal", "(I)I"⟩
abbrev cX8_freeze : ByteArray := prog_10_method_73_code
def yX8_freeze : MethodName := ⟨RX8, "freeze", "(I)I"⟩
abbrev cX8_draw : ByteArray := prog_10_method_74_code
def yX8_draw : MethodName := ⟨RX8, "draw", "(I)I"⟩
abbrev cX8_tryOne : ByteArray := prog_10_method_75_code
def yX8_tryOne : MethodName := ⟨RX8, "tryOne", "(IIII)V"⟩
abbrev cX8_drawYear : ByteArray := prog_10_method_76_code
def yX8_drawYear : MethodName := ⟨RX8, "drawYear", "()V"⟩
abbrev cX8_years : ByteArray := prog_10_method_77_code
def yX8_years : MethodName := ⟨RX8, "years", "(IJ)I"⟩
abbrev cX8_status : ByteArray := prog_10_method_78_code
def yX8_status : MethodName := ⟨RX8, "status", "(I)I"⟩
abbrev cX8_undo : ByteArray := prog_10_method_79_code
def yX8_undo : MethodName := ⟨RX8, "undo", "()I"⟩
abbrev cX8_log : ByteArray := prog_10_method_80_code
def yX8_log : MethodName := ⟨RX8, "log", "(II)I"⟩
abbrev cX8_rule : ByteArray := prog_10_method_81_code
def yX8_rule : MethodName := ⟨RX8, "rule", "(I)I"⟩
abbrev cX8_site : ByteArray := prog_10_method_82_code
def yX8_site : MethodName := ⟨RX8, "site", "(II)I"⟩
abbrev cX8_value : ByteArray := prog_10_method_83_code
def yX8_value : MethodName := ⟨RX8, "value", "(II)J"⟩
abbrev cX8_tells : ByteArray := prog_10_method_84_code
def yX8_tells : MethodName := ⟨RX8, "tells", "(II)Z"⟩
abbrev cX8_all : ByteArray := prog_10_method_85_code
def yX8_all : MethodName := ⟨RX8, "all", "(I)J"⟩
abbrev cX8_count : ByteArray := prog_10_method_86_code
def yX8_count : MethodName := ⟨RX8, "count", "(I)I"⟩
abbrev cX8_putAside : ByteArray := prog_10_method_87_code
def yX8_putAside : MethodName := ⟨RX8, "putAside", "()V"⟩
abbrev cX8_bringBack : ByteArray := prog_10_method_88_code
def yX8_bringBack : MethodName := ⟨RX8, "bringBack", "()V"⟩
abbrev cX8_isWay : ByteArray := prog_10_method_89_code
def yX8_isWay : MethodName := ⟨RX8, "isWay", "(II)Z"⟩
abbrev cX8_canStand : ByteArray := prog_10_method_90_code
def yX8_canStand : MethodName := ⟨RX8, "canStand", "(I)Z"⟩
abbrev cX8_limit : ByteArray := prog_10_method_91_code
def yX8_limit : MethodName := ⟨RX8, "limit", "(III)I"⟩
abbrev cX8_would : ByteArray := prog_10_method_92_code
def yX8_would : MethodName := ⟨RX8, "would", "(IIII)I"⟩
abbrev cX8_asked : ByteArray := prog_10_method_93_code
def yX8_asked : MethodName := ⟨RX8, "asked", "(IIII)I"⟩
abbrev cX8_walk : ByteArray := prog_10_method_94_code
def yX8_walk : MethodName := ⟨RX8, "walk", "(IIIII)I"⟩
abbrev cX8_partner : ByteArray := prog_10_method_95_code
def yX8_partner : MethodName := ⟨RX8, "partner", "(III)I"⟩
abbrev cX8_laysRace : ByteArray := prog_10_method_96_code
def yX8_laysRace : MethodName := ⟨RX8, "laysRace", "(II)V"⟩
abbrev cX8_race : ByteArray := prog_10_method_97_code
def yX8_race : MethodName := ⟨RX8, "race", "(III)I"⟩
abbrev cX8_needs : ByteArray := prog_10_method_98_code
def yX8_needs : MethodName := ⟨RX8, "needs", "(III)J"⟩
abbrev cX8_span : ByteArray := prog_10_method_99_code
def yX8_span : MethodName := ⟨RX8, "span", "(IIZ)I"⟩
abbrev cX8_goes : ByteArray := prog_10_method_100_code
def yX8_goes : MethodName := ⟨RX8, "goes", "(II)I"⟩
abbrev cX8_slackOf : ByteArray := prog_10_method_101_code
def yX8_slackOf : MethodName := ⟨RX8, "slackOf", "(I)I"⟩
abbrev cX8_pointValue : ByteArray := prog_10_method_102_code
def yX8_pointValue : MethodName := ⟨RX8, "pointValue", "(I)J"⟩
abbrev cX8_fair : ByteArray := prog_10_method_103_code
def yX8_fair : MethodName := ⟨RX8, "fair", "(I)I"⟩
abbrev cX8_spells : ByteArray := prog_10_method_104_code
def yX8_spells : MethodName := ⟨RX8, "spells", "(I)V"⟩
abbrev cX8_spellsNumber : ByteArray := prog_10_method_105_code
def yX8_spellsNumber : MethodName := ⟨RX8, "spellsNumber", "(I)V"⟩
abbrev cX8_spell : ByteArray := prog_10_method_106_code
def yX8_spell : MethodName := ⟨RX8, "spell", "(II)I"⟩
abbrev cX8_isScript : ByteArray := prog_10_method_107_code
def yX8_isScript : MethodName := ⟨RX8, "isScript", "(I)Z"⟩
abbrev cX8_step_ : ByteArray := prog_10_method_108_code
def yX8_step_ : MethodName := ⟨RX8, "step", "(III)I"⟩
abbrev cX8_actOf : ByteArray := prog_10_method_109_code
def yX8_actOf : MethodName := ⟨RX8, "actOf", "(I)I"⟩
abbrev cX8_goSteps : ByteArray := prog_10_method_110_code
def yX8_goSteps : MethodName := ⟨RX8, "goSteps", "(IZ)I"⟩
abbrev cX8_run : ByteArray := prog_10_method_111_code
def yX8_run : MethodName := ⟨RX8, "run", "(II)I"⟩
abbrev cX8_perform : ByteArray := prog_10_method_112_code
def yX8_perform : MethodName := ⟨RX8, "perform", "(I)I"⟩
abbrev cX8_quietOnes : ByteArray := prog_10_method_113_code
def yX8_quietOnes : MethodName := ⟨RX8, "quietOnes", "()I"⟩
abbrev cX8_slackOnes : ByteArray := prog_10_method_114_code
def yX8_slackOnes : MethodName := ⟨RX8, "slackOnes", "()I"⟩
abbrev cX8_stillOnes : ByteArray := prog_10_method_115_code
def yX8_stillOnes : MethodName := ⟨RX8, "stillOnes", "()I"⟩
abbrev cX8_most : ByteArray := prog_10_method_116_code
def yX8_most : MethodName := ⟨RX8, "most", "(I)I"⟩
abbrev cX8_image : ByteArray := prog_10_method_117_code
def yX8_image : MethodName := ⟨RX8, "image", "()I"⟩
abbrev cX8_back : ByteArray := prog_10_method_118_code
def yX8_back : MethodName := ⟨RX8, "back", "()I"⟩
abbrev cX8_held : ByteArray := prog_10_method_119_code
def yX8_held : MethodName := ⟨RX8, "held", "(I)I"⟩
def RJx145de : String := "java/io/Serializable"
def TJx145de : u_T := fun k => match k with
  | _ => ("", "", "", false)
def tyJx145de : Nat → FieldType := fun k => match k with
  | _ => .int
abbrev wsJx145de0 : List Cond := u_ws RJx145de TJx145de 0
theorem nmJx145de : ∀ a, a < 0 → ∀ b, b < 0 → a ≠ b → (TJx145de a).2.1 ≠ (TJx145de b).2.1 := by decide +kernel
theorem tyJx145de_ok : ∀ k, k < 0 → parseFieldDescriptor (TJx145de k).2.2.1 = some (tyJx145de k) := by decide +kernel
def RJ5 : String := "java/lang/AbstractStringBuilder"
def TJ5 : u_T := fun k => match k with
  | _ => ("", "", "", false)
def tyJ5 : Nat → FieldType := fun k => match k with
  | _ => .int
abbrev wsJ50 : List Cond := u_ws RJ5 TJ5 0
theorem nmJ5 : ∀ a, a < 0 → ∀ b, b < 0 → a ≠ b → (TJ5 a).2.1 ≠ (TJ5 b).2.1 := by decide +kernel
theorem tyJ5_ok : ∀ k, k < 0 → parseFieldDescriptor (TJ5 k).2.2.1 = some (tyJ5 k) := by decide +kernel
abbrev cJ5_init_d00df : ByteArray := prog_12_method_2_code
def yJ5_init_d00df : MethodName := ⟨RJ5, "<init>", "(I)V"⟩
abbrev cJ5_length_8abf5 : ByteArray := prog_12_method_6_code
def yJ5_length_8abf5 : MethodName := ⟨RJ5, "length", "()I"⟩
abbrev cJ5_ensureCapacityInternal_d00df : ByteArray := prog_12_method_9_code
def yJ5_ensureCapacityInternal_d00df : MethodName := ⟨RJ5, "ensureCapacityInternal", "(I)V"⟩
abbrev cJ5_newCapacity_0f7a4 : ByteArray := prog_12_method_10_code
def yJ5_newCapacity_0f7a4 : MethodName := ⟨RJ5, "newCapacity", "(I)I"⟩
abbrev cJ5_inflate_da8c8 : ByteArray := prog_12_method_11_code
def yJ5_inflate_da8c8 : MethodName := ⟨RJ5, "inflate", "()V"⟩
abbrev cJ5_charAt_5068e : ByteArray := prog_12_method_14_code
def yJ5_charAt_5068e : MethodName := ⟨RJ5, "charAt", "(I)C"⟩
abbrev cJ5_append_cf1ce : ByteArray := prog_12_method_22_code
def yJ5_append_cf1ce : MethodName := ⟨RJ5, "append", "(Ljava/lang/String;)Ljava/lang/AbstractStringBuilder;"⟩
abbrev cJ5_appendNull_278bc : ByteArray := prog_12_method_26_code
def yJ5_appendNull_278bc : MethodName := ⟨RJ5, "appendNull", "()Ljava/lang/AbstractStringBuilder;"⟩
abbrev cJ5_append_3fe6f : ByteArray := prog_12_method_31_code
def yJ5_append_3fe6f : MethodName := ⟨RJ5, "append", "(C)Ljava/lang/AbstractStringBuilder;"⟩
abbrev cJ5_append_c97b9 : ByteArray := prog_12_method_32_code
def yJ5_append_c97b9 : MethodName := ⟨RJ5, "append", "(I)Ljava/lang/AbstractStringBuilder;"⟩
abbrev cJ5_isLatin1_aae02 : ByteArray := prog_12_method_68_code
def yJ5_isLatin1_aae02 : MethodName := ⟨RJ5, "isLatin1", "()Z"⟩
abbrev cJ5_inflateIfNeededFor_a7421 : ByteArray := prog_12_method_71_code
def yJ5_inflateIfNeededFor_a7421 : MethodName := ⟨RJ5, "inflateIfNeededFor", "(Ljava/lang/String;)V"⟩
abbrev cJ5_putStringAt_47b60 : ByteArray := prog_12_method_73_code
def yJ5_putStringAt_47b60 : MethodName := ⟨RJ5, "putStringAt", "(ILjava/lang/String;)V"⟩
def RJx2cfe8 : String := "java/lang/Appendable"
def TJx2cfe8 : u_T := fun k => match k with
  | _ => ("", "", "", false)
def tyJx2cfe8 : Nat → FieldType := fun k => match k with
  | _ => .int
abbrev wsJx2cfe80 : List Cond := u_ws RJx2cfe8 TJx2cfe8 0
theorem nmJx2cfe8 : ∀ a, a < 0 → ∀ b, b < 0 → a ≠ b → (TJx2cfe8 a).2.1 ≠ (TJx2cfe8 b).2.1 := by decide +kernel
theorem tyJx2cfe8_ok : ∀ k, k < 0 → parseFieldDescriptor (TJx2cfe8 k).2.2.1 = some (tyJx2cfe8 k) := by decide +kernel
def RJx9f9b0 : String := "java/lang/CharSequence"
def TJx9f9b0 : u_T := fun k => match k with
  | _ => ("", "", "", false)
def tyJx9f9b0 : Nat → FieldType := fun k => match k with
  | _ => .int
abbrev wsJx9f9b00 : List Cond := u_ws RJx9f9b0 TJx9f9b0 0
theorem nmJx9f9b0 : ∀ a, a < 0 → ∀ b, b < 0 → a ≠ b → (TJx9f9b0 a).2.1 ≠ (TJx9f9b0 b).2.1 := by decide +kernel
theorem tyJx9f9b0_ok : ∀ k, k < 0 → parseFieldDescriptor (TJx9f9b0 k).2.2.1 = some (tyJx9f9b0 k) := by decide +kernel
def RJx8e188 : String := "java/lang/Cloneable"
def TJx8e188 : u_T := fun k => match k with
  | _ => ("", "", "", false)
def tyJx8e188 : Nat → FieldType := fun k => match k with
  | _ => .int
abbrev wsJx8e1880 : List Cond := u_ws RJx8e188 TJx8e188 0
theorem nmJx8e188 : ∀ a, a < 0 → ∀ b, b < 0 → a ≠ b → (TJx8e188 a).2.1 ≠ (TJx8e188 b).2.1 := by decide +kernel
theorem tyJx8e188_ok : ∀ k, k < 0 → parseFieldDescriptor (TJx8e188 k).2.2.1 = some (tyJx8e188 k) := by decide +kernel
def RJxb160c : String := "java/lang/Comparable"
def TJxb160c : u_T := fun k => match k with
  | _ => ("", "", "", false)
def tyJxb160c : Nat → FieldType := fun k => match k with
  | _ => .int
abbrev wsJxb160c0 : List Cond := u_ws RJxb160c TJxb160c 0
theorem nmJxb160c : ∀ a, a < 0 → ∀ b, b < 0 → a ≠ b → (TJxb160c a).2.1 ≠ (TJxb160c b).2.1 := by decide +kernel
theorem tyJxb160c_ok : ∀ k, k < 0 → parseFieldDescriptor (TJxb160c k).2.2.1 = some (tyJxb160c k) := by decide +kernel
def RJ6 : String := "java/lang/Integer"
def TJ6 : u_T := fun k => match k with
  | _ => ("", "", "", false)
def tyJ6 : Nat → FieldType := fun k => match k with
  | _ => .int
abbrev wsJ60 : List Cond := u_ws RJ6 TJ6 0
theorem nmJ6 : ∀ a, a < 0 → ∀ b, b < 0 → a ≠ b → (TJ6 a).2.1 ≠ (TJ6 b).2.1 := by decide +kernel
theorem tyJ6_ok : ∀ k, k < 0 → parseFieldDescriptor (TJ6 k).2.2.1 = some (tyJ6 k) := by decide +kernel
abbrev cJ6_getChars_ba4f3 : ByteArray := prog_18_method_12_code
def yJ6_getChars_ba4f3 : MethodName := ⟨RJ6, "getChars", "(II[B)I"⟩
abbrev cJ6_stringSize_0f7a4 : ByteArray := prog_18_method_13_code
def yJ6_stringSize_0f7a4 : MethodName := ⟨RJ6, "stringSize", "(I)I"⟩
abbrev cJ6_bitCount_0f7a4 : ByteArray := prog_18_method_49_code
def yJ6_bitCount_0f7a4 : MethodName := ⟨RJ6, "bitCount", "(I)I"⟩
def RJ9 : String := "java/lang/Math"
def TJ9 : u_T := fun k => match k with
  | _ => ("", "", "", false)
def tyJ9 : Nat → FieldType := fun k => match k with
  | _ => .int
abbrev wsJ90 : List Cond := u_ws RJ9 TJ9 0
theorem nmJ9 : ∀ a, a < 0 → ∀ b, b < 0 → a ≠ b → (TJ9 a).2.1 ≠ (TJ9 b).2.1 := by decide +kernel
theorem tyJ9_ok : ∀ k, k < 0 → parseFieldDescriptor (TJ9 k).2.2.1 = some (tyJ9 k) := by decide +kernel
abbrev cJ9_floorDiv_7cf53 : ByteArray := prog_19_method_47_code
def yJ9_floorDiv_7cf53 : MethodName := ⟨RJ9, "floorDiv", "(II)I"⟩
abbrev cJ9_floorMod_7cf53 : ByteArray := prog_19_method_50_code
def yJ9_floorMod_7cf53 : MethodName := ⟨RJ9, "floorMod", "(II)I"⟩
abbrev cJ9_abs_0f7a4 : ByteArray := prog_19_method_59_code
def yJ9_abs_0f7a4 : MethodName := ⟨RJ9, "abs", "(I)I"⟩
abbrev cJ9_max_7cf53 : ByteArray := prog_19_method_65_code
def yJ9_max_7cf53 : MethodName := ⟨RJ9, "max", "(II)I"⟩
abbrev cJ9_min_7cf53 : ByteArray := prog_19_method_69_code
def yJ9_min_7cf53 : MethodName := ⟨RJ9, "min", "(II)I"⟩
def RJxd2413 : String := "java/lang/Number"
def TJxd2413 : u_T := fun k => match k with
  | _ => ("", "", "", false)
def tyJxd2413 : Nat → FieldType := fun k => match k with
  | _ => .int
abbrev wsJxd24130 : List Cond := u_ws RJxd2413 TJxd2413 0
theorem nmJxd2413 : ∀ a, a < 0 → ∀ b, b < 0 → a ≠ b → (TJxd2413 a).2.1 ≠ (TJxd2413 b).2.1 := by decide +kernel
theorem tyJxd2413_ok : ∀ k, k < 0 → parseFieldDescriptor (TJxd2413 k).2.2.1 = some (tyJxd2413 k) := by decide +kernel
def RJ0 : String := "java/lang/String"
def TJ0 : u_T := fun k => match k with
  | _ => ("", "", "", false)
def tyJ0 : Nat → FieldType := fun k => match k with
  | _ => .int
abbrev wsJ00 : List Cond := u_ws RJ0 TJ0 0
theorem nmJ0 : ∀ a, a < 0 → ∀ b, b < 0 → a ≠ b → (TJ0 a).2.1 ≠ (TJ0 b).2.1 := by decide +kernel
theorem tyJ0_ok : ∀ k, k < 0 → parseFieldDescriptor (TJ0 k).2.2.1 = some (tyJ0 k) := by decide +kernel
abbrev cJ0_length_8abf5 : ByteArray := prog_22_method_54_code
def yJ0_length_8abf5 : MethodName := ⟨RJ0, "length", "()I"⟩
abbrev cJ0_charAt_5068e : ByteArray := prog_22_method_56_code
def yJ0_charAt_5068e : MethodName := ⟨RJ0, "charAt", "(I)C"⟩
abbrev cJ0_getBytes_840e7 : ByteArray := prog_22_method_147_code
def yJ0_getBytes_840e7 : MethodName := ⟨RJ0, "getBytes", "([BIB)V"⟩
abbrev cJ0_coder_7d493 : ByteArray := prog_22_method_152_code
def yJ0_coder_7d493 : MethodName := ⟨RJ0, "coder", "()B"⟩
abbrev cJ0_isLatin1_aae02 : ByteArray := prog_22_method_154_code
def yJ0_isLatin1_aae02 : MethodName := ⟨RJ0, "isLatin1", "()Z"⟩
abbrev cJ0_checkIndex_df160 : ByteArray := prog_22_method_155_code
def yJ0_checkIndex_df160 : MethodName := ⟨RJ0, "checkIndex", "(II)V"⟩
abbrev cJ0_checkBoundsOffCount_cabcc : ByteArray := prog_22_method_157_code
def yJ0_checkBoundsOffCount_cabcc : MethodName := ⟨RJ0, "checkBoundsOffCount", "(III)I"⟩
abbrev cJ0_checkBoundsBeginEnd_23922 : ByteArray := prog_22_method_158_code
def yJ0_checkBoundsBeginEnd_23922 : MethodName := ⟨RJ0, "checkBoundsBeginEnd", "(III)V"⟩
def RJ4 : String := "java/lang/StringBuilder"
def TJ4 : u_T := fun k => match k with
  | 0 => ("java/lang/AbstractStringBuilder", "value", "[B", false)
  | 1 => ("java/lang/AbstractStringBuilder", "coder", "B", false)
  | 2 => ("java/lang/AbstractStringBuilder", "maybeLatin1", "Z", false)
  | _ => ("java/lang/AbstractStringBuilder", "count", "I", false)
def tyJ4 : Nat → FieldType := fun k => match k with
  | 0 => .array .byte
  | 1 => .byte
  | 2 => .boolean
  | _ => .int
abbrev wsJ40 : List Cond := u_ws RJ4 TJ4 4
theorem nmJ4 : ∀ a, a < 4 → ∀ b, b < 4 → a ≠ b → (TJ4 a).2.1 ≠ (TJ4 b).2.1 := by decide +kernel
theorem tyJ4_ok : ∀ k, k < 4 → parseFieldDescriptor (TJ4 k).2.2.1 = some (tyJ4 k) := by decide +kernel
abbrev cJ4_init_da8c8 : ByteArray := prog_23_method_1_code
def yJ4_init_da8c8 : MethodName := ⟨RJ4, "<init>", "()V"⟩
abbrev cJ4_append_15ec4 : ByteArray := prog_23_method_7_code
def yJ4_append_15ec4 : MethodName := ⟨RJ4, "append", "(Ljava/lang/String;)Ljava/lang/StringBuilder;"⟩
abbrev cJ4_append_cf468 : ByteArray := prog_23_method_14_code
def yJ4_append_cf468 : MethodName := ⟨RJ4, "append", "(C)Ljava/lang/StringBuilder;"⟩
abbrev cJ4_append_bf812 : ByteArray := prog_23_method_15_code
def yJ4_append_bf812 : MethodName := ⟨RJ4, "append", "(I)Ljava/lang/StringBuilder;"⟩
abbrev cJ4_charAt_5068e : ByteArray := prog_23_method_88_code
def yJ4_charAt_5068e : MethodName := ⟨RJ4, "charAt", "(I)C"⟩
abbrev cJ4_length_8abf5 : ByteArray := prog_23_method_93_code
def yJ4_length_8abf5 : MethodName := ⟨RJ4, "length", "()I"⟩
def RJ1 : String := "java/lang/StringLatin1"
def TJ1 : u_T := fun k => match k with
  | _ => ("", "", "", false)
def tyJ1 : Nat → FieldType := fun k => match k with
  | _ => .int
abbrev wsJ10 : List Cond := u_ws RJ1 TJ1 0
theorem nmJ1 : ∀ a, a < 0 → ∀ b, b < 0 → a ≠ b → (TJ1 a).2.1 ≠ (TJ1 b).2.1 := by decide +kernel
theorem tyJ1_ok : ∀ k, k < 0 → parseFieldDescriptor (TJ1 k).2.2.1 = some (tyJ1 k) := by decide +kernel
abbrev cJ1_charAt_3b067 : ByteArray := prog_24_method_2_code
def yJ1_charAt_3b067 : MethodName := ⟨RJ1, "charAt", "([BI)C"⟩
abbrev cJ1_canEncode_fc78d : ByteArray := prog_24_method_3_code
def yJ1_canEncode_fc78d : MethodName := ⟨RJ1, "canEncode", "(C)Z"⟩
abbrev cJ1_inflate_0e8fd : ByteArray := prog_24_method_50_code
def yJ1_inflate_0e8fd : MethodName := ⟨RJ1, "inflate", "([BI[BII)V"⟩
def RJ2 : String := "java/lang/StringUTF16"
def TJ2 : u_T := fun k => match k with
  | _ => ("", "", "", false)
def tyJ2 : Nat → FieldType := fun k => match k with
  | _ => .int
abbrev wsJ20 : List Cond := u_ws RJ2 TJ2 0
theorem nmJ2 : ∀ a, a < 0 → ∀ b, b < 0 → a ≠ b → (TJ2 a).2.1 ≠ (TJ2 b).2.1 := by decide +kernel
theorem tyJ2_ok : ∀ k, k < 0 → parseFieldDescriptor (TJ2 k).2.2.1 = some (tyJ2 k) := by decide +kernel
abbrev cJ2_newBytesFor_77867 : ByteArray := prog_25_method_2_code
def yJ2_newBytesFor_77867 : MethodName := ⟨RJ2, "newBytesFor", "(I)[B"⟩
abbrev cJ2_newBytesLength_0f7a4 : ByteArray := prog_25_method_3_code
def yJ2_newBytesLength_0f7a4 : MethodName := ⟨RJ2, "newBytesLength", "(I)I"⟩
abbrev cJ2_putChar_b72d1 : ByteArray := prog_25_method_4_code
def yJ2_putChar_b72d1 : MethodName := ⟨RJ2, "putChar", "([BII)V"⟩
abbrev cJ2_getChar_3b067 : ByteArray := prog_25_method_5_code
def yJ2_getChar_3b067 : MethodName := ⟨RJ2, "getChar", "([BI)C"⟩
abbrev cJ2_length_9d52b : ByteArray := prog_25_method_6_code
def yJ2_length_9d52b : MethodName := ⟨RJ2, "length", "([B)I"⟩
abbrev cJ2_putCharSB_b72d1 : ByteArray := prog_25_method_71_code
def yJ2_putCharSB_b72d1 : MethodName := ⟨RJ2, "putCharSB", "([BII)V"⟩
abbrev cJ2_getChars_46870 : ByteArray := prog_25_method_77_code
def yJ2_getChars_46870 : MethodName := ⟨RJ2, "getChars", "(III[B)I"⟩
abbrev cJ2_putCharsAt_cd4e5 : ByteArray := prog_25_method_81_code
def yJ2_putCharsAt_cd4e5 : MethodName := ⟨RJ2, "putCharsAt", "([BICCCC)I"⟩
abbrev cJ2_charAt_3b067 : ByteArray := prog_25_method_83_code
def yJ2_charAt_3b067 : MethodName := ⟨RJ2, "charAt", "([BI)C"⟩
abbrev cJ2_inflate_0e8fd : ByteArray := prog_25_method_86_code
def yJ2_inflate_0e8fd : MethodName := ⟨RJ2, "inflate", "([BI[BII)V"⟩
abbrev cJ2_getChars_ba4f3 : ByteArray := prog_25_method_89_code
def yJ2_getChars_ba4f3 : MethodName := ⟨RJ2, "getChars", "(II[B)I"⟩
abbrev cJ2_checkIndex_2214a : ByteArray := prog_25_method_91_code
def yJ2_checkIndex_2214a : MethodName := ⟨RJ2, "checkIndex", "(I[B)V"⟩
abbrev cJ2_checkBoundsBeginEnd_d044e : ByteArray := prog_25_method_93_code
def yJ2_checkBoundsBeginEnd_d044e : MethodName := ⟨RJ2, "checkBoundsBeginEnd", "(II[B)V"⟩
abbrev cJ2_checkBoundsOffCount_d044e : ByteArray := prog_25_method_94_code
def yJ2_checkBoundsOffCount_d044e : MethodName := ⟨RJ2, "checkBoundsOffCount", "(II[B)V"⟩
def RJ10 : String := "java/lang/System"
def TJ10 : u_T := fun k => match k with
  | _ => ("", "", "", false)
def tyJ10 : Nat → FieldType := fun k => match k with
  | _ => .int
abbrev wsJ100 : List Cond := u_ws RJ10 TJ10 0
theorem nmJ10 : ∀ a, a < 0 → ∀ b, b < 0 → a ≠ b → (TJ10 a).2.1 ≠ (TJ10 b).2.1 := by decide +kernel
theorem tyJ10_ok : ∀ k, k < 0 → parseFieldDescriptor (TJ10 k).2.2.1 = some (tyJ10 k) := by decide +kernel
def RJxfd54e : String := "java/lang/constant/Constable"
def TJxfd54e : u_T := fun k => match k with
  | _ => ("", "", "", false)
def tyJxfd54e : Nat → FieldType := fun k => match k with
  | _ => .int
abbrev wsJxfd54e0 : List Cond := u_ws RJxfd54e TJxfd54e 0
theorem nmJxfd54e : ∀ a, a < 0 → ∀ b, b < 0 → a ≠ b → (TJxfd54e a).2.1 ≠ (TJxfd54e b).2.1 := by decide +kernel
theorem tyJxfd54e_ok : ∀ k, k < 0 → parseFieldDescriptor (TJxfd54e k).2.2.1 = some (tyJxfd54e k) := by decide +kernel
def RJx3cf43 : String := "java/lang/constant/ConstantDesc"
def TJx3cf43 : u_T := fun k => match k with
  | _ => ("", "", "", false)
def tyJx3cf43 : Nat → FieldType := fun k => match k with
  | _ => .int
abbrev wsJx3cf430 : List Cond := u_ws RJx3cf43 TJx3cf43 0
theorem nmJx3cf43 : ∀ a, a < 0 → ∀ b, b < 0 → a ≠ b → (TJx3cf43 a).2.1 ≠ (TJx3cf43 b).2.1 := by decide +kernel
theorem tyJx3cf43_ok : ∀ k, k < 0 → parseFieldDescriptor (TJx3cf43 k).2.2.1 = some (tyJx3cf43 k) := by decide +kernel
def RJ7 : String := "java/util/Arrays"
def TJ7 : u_T := fun k => match k with
  | _ => ("", "", "", false)
def tyJ7 : Nat → FieldType := fun k => match k with
  | _ => .int
abbrev wsJ70 : List Cond := u_ws RJ7 TJ7 0
theorem nmJ7 : ∀ a, a < 0 → ∀ b, b < 0 → a ≠ b → (TJ7 a).2.1 ≠ (TJ7 b).2.1 := by decide +kernel
theorem tyJ7_ok : ∀ k, k < 0 → parseFieldDescriptor (TJ7 k).2.2.1 = some (tyJ7 k) := by decide +kernel
abbrev cJ7_copyOf_9075b : ByteArray := prog_30_method_121_code
def yJ7_copyOf_9075b : MethodName := ⟨RJ7, "copyOf", "([BI)[B"⟩
def RJ8 : String := "jdk/internal/util/ArraysSupport"
def TJ8 : u_T := fun k => match k with
  | _ => ("", "", "", false)
def tyJ8 : Nat → FieldType := fun k => match k with
  | _ => .int
abbrev wsJ80 : List Cond := u_ws RJ8 TJ8 0
theorem nmJ8 : ∀ a, a < 0 → ∀ b, b < 0 → a ≠ b → (TJ8 a).2.1 ≠ (TJ8 b).2.1 := by decide +kernel
theorem tyJ8_ok : ∀ k, k < 0 → parseFieldDescriptor (TJ8 k).2.2.1 = some (tyJ8 k) := by decide +kernel
abbrev cJ8_newLength_cabcc : ByteArray := prog_32_method_27_code
def yJ8_newLength_cabcc : MethodName := ⟨RJ8, "newLength", "(III)I"⟩
abbrev cJ8_hugeLength_7cf53 : ByteArray := prog_32_method_28_code
def yJ8_hugeLength_7cf53 : MethodName := ⟨RJ8, "hugeLength", "(II)I"⟩
def RJ3 : String := "jdk/internal/util/Preconditions"
def TJ3 : u_T := fun k => match k with
  | _ => ("", "", "", false)
def tyJ3 : Nat → FieldType := fun k => match k with
  | _ => .int
abbrev wsJ30 : List Cond := u_ws RJ3 TJ3 0
theorem nmJ3 : ∀ a, a < 0 → ∀ b, b < 0 → a ≠ b → (TJ3 a).2.1 ≠ (TJ3 b).2.1 := by decide +kernel
theorem tyJ3_ok : ∀ k, k < 0 → parseFieldDescriptor (TJ3 k).2.2.1 = some (tyJ3 k) := by decide +kernel
abbrev cJ3_checkIndex_8e157 : ByteArray := prog_33_method_11_code
def yJ3_checkIndex_8e157 : MethodName := ⟨RJ3, "checkIndex", "(IILjava/util/function/BiFunction;)I"⟩
abbrev cJ3_checkFromToIndex_8c36e : ByteArray := prog_33_method_12_code
def yJ3_checkFromToIndex_8c36e : MethodName := ⟨RJ3, "checkFromToIndex", "(IIILjava/util/function/BiFunction;)I"⟩
abbrev cJ3_checkFromIndexSize_8c36e : ByteArray := prog_33_method_13_code
def yJ3_checkFromIndexSize_8c36e : MethodName := ⟨RJ3, "checkFromIndexSize", "(IIILjava/util/function/BiFunction;)I"⟩
def RL : String := "HushWatchLaw"
abbrev cL_site : ByteArray := method_3_code
def yL_site : MethodName := ⟨RL, "site", "(LHushWatch;II[J)I"⟩
abbrev cL_law : ByteArray := code
def yL_law : MethodName := ⟨RL, "law", "([I)Z"⟩
abbrev vwCl : List vw_C := [(RJ4, TJ4, 4), (RX0, TX0, 1), (RX1, TX1, 5), (RX2, TX2, 3), (RX3, TX3, 11), (RX4, TX4, 3), (RX5, TX5, 6), (RX6, TX6, 2), (RX7, TX7, 12), (RX8, TX8, 36)]
end
-- 10.base
section
/-- class numbers and slots, the classes of int, byte and long rows -/
abbrev EE : Type := va_G × ClassId × ClassId × ClassId
abbrev TY (E : EE) : List (ClassId × FieldType) := [(E.2.1, .int), (E.2.2.1, .byte), (E.2.2.2, .long)]
/-- the links among nest mates: not among the good words, so they go along as a premise -/
def nestL : List Cond := [.methodLinkNest "HushWatch" 9 ⟨"HushWatch$Tape", "<init>", "()V"⟩ "HushWatch", .fieldLinkNest "HushWatch" 81 "HushWatch$Tape" "length" "I" "HushWatch", .fieldLinkNest "HushWatch$Reader" 59 "HushWatch$Tape" "length" "I" "HushWatch", .fieldLinkNest "HushWatch$State" 31 "HushWatch$Reader" "rules" "[I" "HushWatch", .fieldLinkNest "HushWatch$State" 49 "HushWatch$Reader" "places" "[I" "HushWatch", .fieldLinkNest "HushWatch$Scripts" 26 "HushWatch$Reader" "steps" "[I" "HushWatch", .fieldLinkNest "HushWatch$State" 36 "HushWatch$Reader" "siteCount" "I" "HushWatch", .fieldLinkNest "HushWatch$Scripts" 35 "HushWatch$Reader" "stepCount" "I" "HushWatch", .methodLinkNest "HushWatch" 27 ⟨"HushWatch$Scripts", "<init>", "()V"⟩ "HushWatch", .fieldLinkNest "HushWatch" 317 "HushWatch$Scripts" "held" "I" "HushWatch", .methodLinkNest "HushWatch" 34 ⟨"HushWatch$State", "<init>", "()V"⟩ "HushWatch", .fieldLinkNest "HushWatch$History" 24 "HushWatch$State" "row" "[I" "HushWatch", .fieldLinkNest "HushWatch" 114 "HushWatch$State" "row" "[I" "HushWatch", .fieldLinkNest "HushWatch" 234 "HushWatch$State" "partners" "[I" "HushWatch", .fieldLinkNest "HushWatch" 228 "HushWatch$State" "askedCount" "I" "HushWatch", .fieldLinkNest "HushWatch" 231 "HushWatch$State" "outcome" "I" "HushWatch", .methodLinkNest "HushWatch" 47 ⟨"HushWatch$Book", "<init>", "()V"⟩ "HushWatch", .methodLinkNest "HushWatch" 57 ⟨"HushWatch$History", "<init>", "()V"⟩ "HushWatch", .fieldLinkNest "HushWatch" 201 "HushWatch$History" "held" "I" "HushWatch", .methodLinkNest "HushWatch" 64 ⟨"HushWatch$Draws", "<init>", "()V"⟩ "HushWatch", .fieldLinkNest "HushWatch" 173 "HushWatch$Draws" "x" "J" "HushWatch", .fieldLinkNest "HushWatch" 180 "HushWatch$Draws" "sort" "I" "HushWatch", .fieldLinkNest "HushWatch" 183 "HushWatch$Draws" "a" "I" "HushWatch", .fieldLinkNest "HushWatch" 186 "HushWatch$Draws" "b" "I" "HushWatch", .fieldLinkNest "HushWatch" 189 "HushWatch$Draws" "c" "I" "HushWatch", .fieldLinkNest "HushWatch$Reader" 109 "HushWatch" "NUMBERS_OF_STEP" "[I" "HushWatch", .methodLinkNest "HushWatch$State" 124 ⟨"HushWatch", "isMovable", "(II)Z"⟩ "HushWatch", .fieldLinkNest "HushWatch$Scripts" 51 "HushWatch" "SORT_OF_STEP" "[I" "HushWatch"]
def nestOk : Cond → Bool
  | .fieldLinkNest .. => true
  | .methodLinkNest .. => true
  | _ => false
theorem nestL_ok : ∀ w ∈ nestL, nestOk w = true := by decide +kernel
def NX (U : State) : Prop := ∀ w ∈ nestL, va_Nw w U
theorem nx_warm {w : Cond} (h2 : nestOk w = true) {s U : State} (hW : s.WarmedH U.vm) (h1 : va_Nw w s) : va_Nw w U := by
  cases w with
  | fieldLinkNest a i b n d h => exact va_Nw.warmF hW h1
  | methodLinkNest a i x h => exact va_Nw.warmM hW h1
  | _ => simp [nestOk] at h2
theorem nx_same {w : Cond} (h2 : nestOk w = true) {u U : State} (h : u.vm = U.vm) (h1 : va_Nw w u) : va_Nw w U := by
  cases w with
  | fieldLinkNest a i b n d h9 => exact va_Nw.same rfl h h1
  | methodLinkNest a i x h9 => exact va_Nw.same rfl h h1
  | _ => simp [nestOk] at h2
theorem NX.warm {s U : State} (hW : s.WarmedH U.vm) (h : NX s) : NX U := fun w hw => nx_warm (nestL_ok w hw) hW (h w hw)
theorem NX.same {u U : State} (h : u.vm = U.vm) (hN : NX u) : NX U := fun w hw => nx_same (nestL_ok w hw) h (hN w hw)
theorem nx_use {w : Cond} (h2 : nestOk w = true) {A : Array Value} {U : State} (h1 : va_Nw w U) : w.before A U = true := by
  cases w with
  | fieldLinkNest a i b n d h => exact va_Nw.use rfl h1
  | methodLinkNest a i x h => exact va_Nw.use rfl h1
  | _ => simp [nestOk] at h2
theorem nx {s : State} (hN : NX s) (i : Nat) {w : Cond} (hi : nestL[i]? = some w) {A : Array Value} : w.before A s = true := nx_use (nestL_ok w (List.mem_of_getElem? hi)) (hN w (List.mem_of_getElem? hi))
def kw (E : EE) (U : State) : Prop := va_K E.1 vwCl (TY E) U ∧ NX U
theorem kw.warm {E : EE} {s U : State} (hW : s.WarmedH U.vm) (h : kw E s) : kw E U := ⟨va_K.moved hW.alike h.1, h.2.warm hW⟩
theorem kw.calling {E : EE} {U : State} {g : JFrame} {mk : MethodId} {a : Array Value} (h : kw E U) : kw E (U.calling g mk a) := ⟨va_K.moved (u := U) (U := U.calling g mk a) (Vm.Alike.refl U.vm) h.1, NX.same (u := U) rfl h.2⟩
/-- a reading method's start: cells W -/
def pP (E : EE) (W : va_W) (U : State) : Prop := kw E U ∧ va_P E.1 vwCl W U.heap
/-- a writing method's start: cells W, apart; the heap's size -/
def pW (E : EE) (sz : Nat) (W : va_W) (U : State) : Prop := U.heap.size = sz ∧ kw E U ∧ va_P E.1 vwCl W U.heap ∧ va_D (fun _ => True) W
theorem pP.blind {E : EE} {W : va_W} {av : List Value} : FrameBlind (va_Pc av (pP E W)) := fun _ _ _ _ q => ⟨q.1, q.2.1.calling, q.2.2⟩
theorem pW.blind {E : EE} {sz : Nat} {W : va_W} {av : List Value} : FrameBlind (va_Pc av (pW E sz W)) := fun _ _ _ _ q => ⟨q.1, q.2.1, q.2.2.1.calling, q.2.2.2⟩
theorem pP.pre {E : EE} {W : va_W} {av : List Value} {s : State} {H : Heap} (hk : kw E s) (hP : va_P E.1 vwCl W H) : ∀ U : State, U.heap = H → s.WarmedH U.vm → va_Pc av (pP E W) av.toArray U := fun U hU hW => ⟨rfl, hk.warm hW, by rw [hU]; exact hP⟩
theorem pW.pre {E : EE} {W : va_W} {av : List Value} {s : State} {H : Heap} {A : Nat → Prop} (hk : kw E s) (hP : va_P E.1 vwCl W H) (hD : va_D A W) : ∀ U : State, U.heap = H → s.WarmedH U.vm → va_Pc av (pW E H.size W) av.toArray U := fun U hU hW => ⟨rfl, by rw [hU], hk.warm hW, by rw [hU]; exact hP, hD.weaken (fun _ _ _ _ => trivial)⟩
/-- the reference's words as numbers: statics that nobody writes -/
def ZM (A : Nat → Prop) (U : State) (H : Heap) : Prop := va_Z RX8 "LAW" "J" (.long 12343) A U H ∧ va_Z RX8 "BOUND" "J" (.long 2610628) A U H ∧ va_Z RX8 "GOAL" "J" (.long 244780) A U H ∧ va_Z RX8 "SITE" "J" (.long 632453) A U H ∧ va_Z RX8 "MOVE" "J" (.long 442053) A U H ∧ va_Z RX8 "ADD" "J" (.long 1156) A U H ∧ va_Z RX8 "SYNC" "J" (.long 648643) A U H ∧ va_Z RX8 "FREEZE" "J" (.long 220370757) A U H
theorem ZM.call {A A1 : Nat → Prop} {s U : State} {H : Heap} {locs : List Loc} (h : ZM A s s.heap) (hS : va_S A s.heap H locs) (hF : ∀ q, A1 q → A q) (hU : U.heap = H) (hW : s.WarmedH U.vm) : ZM A1 U U.heap := by
  rw [hU]
  obtain ⟨h1, h2, h3, h4, h5, h6, h7, h8⟩ := h
  exact ⟨((h1.kept hS.2.1).narrow hF).moved hW.alike, ((h2.kept hS.2.1).narrow hF).moved hW.alike, ((h3.kept hS.2.1).narrow hF).moved hW.alike, ((h4.kept hS.2.1).narrow hF).moved hW.alike, ((h5.kept hS.2.1).narrow hF).moved hW.alike, ((h6.kept hS.2.1).narrow hF).moved hW.alike, ((h7.kept hS.2.1).narrow hF).moved hW.alike, ((h8.kept hS.2.1).narrow hF).moved hW.alike⟩
theorem ZM.calling {A : Nat → Prop} {U : State} {g : JFrame} {mk : MethodId} {a : Array Value} (h : ZM A U U.heap) : ZM A (U.calling g mk a) (U.calling g mk a).heap := by
  obtain ⟨h1, h2, h3, h4, h5, h6, h7, h8⟩ := h
  exact ⟨h1.moved (Vm.Alike.refl U.vm), h2.moved (Vm.Alike.refl U.vm), h3.moved (Vm.Alike.refl U.vm), h4.moved (Vm.Alike.refl U.vm), h5.moved (Vm.Alike.refl U.vm), h6.moved (Vm.Alike.refl U.vm), h7.moved (Vm.Alike.refl U.vm), h8.moved (Vm.Alike.refl U.vm)⟩
def pWZ (E : EE) (sz : Nat) (W : va_W) (U : State) : Prop := U.heap.size = sz ∧ kw E U ∧ va_P E.1 vwCl W U.heap ∧ va_D (fun _ => True) W ∧ ZM (va_A W sz) U U.heap
theorem pWZ.blind {E : EE} {sz : Nat} {W : va_W} {av : List Value} : FrameBlind (va_Pc av (pWZ E sz W)) := fun _ _ _ _ q => ⟨q.1, q.2.1, q.2.2.1.calling, q.2.2.2.1, q.2.2.2.2.1, q.2.2.2.2.2.calling⟩
theorem pWZ.pre {E : EE} {W : va_W} {av : List Value} {s : State} {H : Heap} {A : Nat → Prop} {locs : List Loc} (hk : kw E s) (hP : va_P E.1 vwCl W H) (hD : va_D A W) (hZ : ZM A s s.heap) (hS : va_S A s.heap H locs) (hF : ∀ q, va_A W H.size q → A q) : ∀ U : State, U.heap = H → s.WarmedH U.vm → va_Pc av (pWZ E H.size W) av.toArray U := fun U hU hW => ⟨rfl, by rw [hU], hk.warm hW, by rw [hU]; exact hP, hD.weaken (fun _ _ _ _ => trivial), hZ.call hS hF hU hW⟩
theorem vin {i : Int32} {n : Nat} (h : decide (¬ (i < 0 ∨ n ≤ i.toNatClampNeg)) = true) : vp_in i n := by unfold vp_in; exact of_decide_eq_true h
theorem vin_lt {i k : Int32} {n : Nat} (h0 : ¬ i < 0) (h1 : ¬ i ≥ k) (hk : k.toInt = n) : vp_in i n := by
  unfold vp_in
  have t0 : (0 : Int32).toInt = 0 := by decide
  simp only [Int32.lt_iff_toInt_lt, ge_iff_le, Int32.le_iff_toInt_le, t0, hk] at h0 h1 ⊢
  have h2 : i.toNatClampNeg = i.toInt.toNat := rfl
  omega
theorem vin_64 {i : Int32} {a b : Int64} {n : Nat} (h : a ≤ i.toInt64 ∧ i.toInt64 ≤ b) (ha : 0 ≤ a.toInt) (hb : b.toInt + 1 = n) : vp_in i n := by
  unfold vp_in
  have t0 : (0 : Int32).toInt = 0 := by decide
  simp only [Int64.le_iff_toInt_le, Int32.toInt_toInt64] at h
  simp only [Int32.lt_iff_toInt_lt, t0]
  have h2 : i.toNatClampNeg = i.toInt.toNat := rfl
  omega
theorem lgc_lt {x y : Int64} (h : y ≤ x) : ¬ lg_cmp x y < 0 := by
  unfold lg_cmp
  by_cases h1 : y < x
  · rw [if_pos h1]; decide
  · have h2 : x = y := by
      have a := Int64.le_iff_toInt_le.mp h
      have b : ¬ y.toInt < x.toInt := fun z => h1 (Int64.lt_iff_toInt_lt.mpr z)
      exact Int64.toInt_inj.mp (by omega)
    rw [if_neg h1, if_pos h2]; decide
theorem lgc_lt2 {x y : Int64} (h : ¬ lg_cmp x y < 0) : y ≤ x := by
  unfold lg_cmp at h
  by_cases h1 : y < x
  · exact Int64.le_iff_toInt_le.mpr (Int.le_of_lt (Int64.lt_iff_toInt_lt.mp h1))
  · rw [if_neg h1] at h
    by_cases h2 : x = y
    · rw [h2]; exact Int64.le_iff_toInt_le.mpr (Int.le_refl _)
    · rw [if_neg h2] at h; exact absurd (by decide) h
theorem lgc_gt {x y : Int64} (h : x ≤ y) : ¬ lg_cmp x y > 0 := by
  unfold lg_cmp
  have h1 : ¬ y < x := fun z => by
    have a := Int64.le_iff_toInt_le.mp h
    have b := Int64.lt_iff_toInt_lt.mp z
    omega
  rw [if_neg h1]
  by_cases h2 : x = y
  · rw [if_pos h2]; decide
  · rw [if_neg h2]; decide
theorem lgc_gt2 {x y : Int64} (h : ¬ lg_cmp x y > 0) : x ≤ y := by
  unfold lg_cmp at h
  by_cases h1 : y < x
  · rw [if_pos h1] at h; exact absurd (by decide) h
  · have b : ¬ y.toInt < x.toInt := fun z => h1 (Int64.lt_iff_toInt_lt.mpr z)
    exact Int64.le_iff_toInt_le.mpr (by omega)
theorem nat_rng {x : Int32} {n : Nat} (h : 0 ≤ x.toInt ∧ x.toInt ≤ n) : ∃ j : Nat, j ≤ n ∧ x = nI j := by
  refine ⟨x.toInt.toNat, by omega, ?_⟩
  refine Int32.toInt_inj.mp ?_
  have hx : x.toInt < 2 ^ 31 := Int32.toInt_lt x
  rw [nI_toInt (by omega)]
  omega
theorem nI_mul (a b : Nat) : nI a * nI b = nI (a * b) := (Int32.ofNat_mul a b).symm
theorem upd_ne {f : Nat → Int32} {i j : Nat} {x : Int32} (h : j ≠ i) : upd f i x j = f j := by
  unfold upd
  rw [if_neg h]
theorem cpy_at {f g : Nat → Int32} {sp dp n : Int32} {k : Nat} (h1 : sp.toNatClampNeg = 0) (h2 : dp.toNatClampNeg = 0) (h3 : k < n.toNatClampNeg) : va_cpy f g sp.toNatClampNeg dp.toNatClampNeg n.toNatClampNeg k = f k := by
  unfold va_cpy
  rw [h1, h2, if_pos (by omega)]
  simp
theorem nat_bool {k : Nat} (h : k ≤ 1) : nI k = 0 ∨ nI k = 1 := by
  rcases (show k = 0 ∨ k = 1 by omega) with rfl | rfl
  · exact Or.inl rfl
  · exact Or.inr rfl
theorem nar_bool {r : Int32} (h : r = 0 ∨ r = 1) : narrow .boolean (.int r) = .int r := by
  rcases h with rfl | rfl <;> rfl
theorem nar_nat {k : Nat} (h : k ≤ 1) : narrow .boolean (.int (nI k)) = .int (nI k) := nar_bool (nat_bool h)
theorem nc_lt {a b : Nat} (ha : a < 2 ^ 31) (hb : b < 2 ^ 31) (h : nI a < nI b) : a < b := (nI_ltI ha hb).mp h
theorem nc_lt_n {a b : Nat} (ha : a < 2 ^ 31) (hb : b < 2 ^ 31) (h : ¬ nI a < nI b) : ¬ (a < b) := fun q => h ((nI_ltI ha hb).mpr q)
theorem nc_ge {a b : Nat} (ha : a < 2 ^ 31) (hb : b < 2 ^ 31) (h : nI a ≥ nI b) : b ≤ a := (nI_leI hb ha).mp h
theorem nc_ge_n {a b : Nat} (ha : a < 2 ^ 31) (hb : b < 2 ^ 31) (h : ¬ nI a ≥ nI b) : ¬ (b ≤ a) := fun q => h ((nI_leI hb ha).mpr q)
theorem nc_gt {a b : Nat} (ha : a < 2 ^ 31) (hb : b < 2 ^ 31) (h : nI a > nI b) : b < a := (nI_ltI hb ha).mp h
theorem nc_gt_n {a b : Nat} (ha : a < 2 ^ 31) (hb : b < 2 ^ 31) (h : ¬ nI a > nI b) : ¬ (b < a) := fun q => h ((nI_ltI hb ha).mpr q)
theorem nc_le {a b : Nat} (ha : a < 2 ^ 31) (hb : b < 2 ^ 31) (h : nI a ≤ nI b) : a ≤ b := (nI_leI ha hb).mp h
theorem nc_le_n {a b : Nat} (ha : a < 2 ^ 31) (hb : b < 2 ^ 31) (h : ¬ nI a ≤ nI b) : ¬ (a ≤ b) := fun q => h ((nI_leI ha hb).mpr q)
theorem nc_eq {a b : Nat} (ha : a < 2 ^ 31) (hb : b < 2 ^ 31) (h : nI a = nI b) : a = b := (nI_eq ha hb).mp h
theorem nc_eq_n {a b : Nat} (ha : a < 2 ^ 31) (hb : b < 2 ^ 31) (h : ¬ nI a = nI b) : ¬ (a = b) := fun q => h ((nI_eq ha hb).mpr q)
theorem nc_ne {a b : Nat} (ha : a < 2 ^ 31) (hb : b < 2 ^ 31) (h : ¬ nI a = nI b) : ¬ a = b := nc_eq_n ha hb h
theorem nc_ne_n {a b : Nat} (ha : a < 2 ^ 31) (hb : b < 2 ^ 31) (h : nI a = nI b) : ¬ (¬ a = b) := fun q => q (nc_eq ha hb h)
section MYC
variable {p : Program} {l : Launch} {e : Env} {R : Room} {s : State} {m : MethodId} {args : Array Value} {below : List Frame} {meth : Method} {c : Code} {H : Heap} {locs : List Loc} {cells slots : Nat} {Q : State → Prop}
variable {pc : Nat} {ls : Array Slot} {rest st0 : List Value} {a : Array Value}
/-- a call that leaves the heap as it is -/
theorem pc_i {post : Int32 → Prop} (hr : va_Run p l e R s m args below meth c H locs cells slots 0 0 (F0 m pc ls st0) rest (vp_Si post a) (fun _ => False))
    (kk : ∀ r : Int32, post r → W p l e R s m args below meth c H locs cells slots Q (F0 m (pc + 3) ls (.int r :: rest))) : W p l e R s m args below meth c H locs cells slots Q (F0 m pc ls st0) := by
  intro T hT X
  obtain ⟨v, st₀, t, T', L, h0, X', hL, e1, e2, ⟨r, hv, hp, hh⟩, st⟩ := hr T hT X
  cases hv
  obtain ⟨t2, a1, b1⟩ := kk r hp T' (by rw [e1, hh, h0]) (Stand.forget X' (fun q h => (hL q h).elim))
  exact ⟨t2, st t2 a1, b1⟩
theorem pc_l {post : Int64 → Prop} (hr : va_Run p l e R s m args below meth c H locs cells slots 0 0 (F0 m pc ls st0) rest (vp_Sl post a) (fun _ => False))
    (kk : ∀ r : Int64, post r → W p l e R s m args below meth c H locs cells slots Q (F0 m (pc + 3) ls (.long r :: rest))) : W p l e R s m args below meth c H locs cells slots Q (F0 m pc ls st0) := by
  intro T hT X
  obtain ⟨v, st₀, t, T', L, h0, X', hL, e1, e2, ⟨r, hv, hp, hh⟩, st⟩ := hr T hT X
  cases hv
  obtain ⟨t2, a1, b1⟩ := kk r hp T' (by rw [e1, hh, h0]) (Stand.forget X' (fun q h => (hL q h).elim))
  exact ⟨t2, st t2 a1, b1⟩
theorem pc_v {post : Unit → Prop} (hr : va_Run p l e R s m args below meth c H locs cells slots 0 0 (F0 m pc ls st0) rest (va_Sv post a) (fun _ => False))
    (kk : W p l e R s m args below meth c H locs cells slots Q (F0 m (pc + 3) ls rest)) : W p l e R s m args below meth c H locs cells slots Q (F0 m pc ls st0) := by
  intro T hT X
  obtain ⟨v, st₀, t, T', L, h0, X', hL, e1, e2, ⟨hv, hp, hh⟩, st⟩ := hr T hT X
  cases hv
  obtain ⟨t2, a1, b1⟩ := kk T' (by rw [e1, hh, h0]) (Stand.forget X' (fun q h => (hL q h).elim))
  exact ⟨t2, st t2 a1, b1⟩
/-- a new row of a kind that the tables name already -/
theorem nw_arr {cc : ByteArray} {D : va_G} {cl : List vw_C} {tys : List (ClassId × FieldType)} {ws : va_W} {A : Nat → Prop} {H0 : Heap} (hexec : p.tables.exec = Jvm.exec) (hb : c.code = cc) {atype : ArrayType} (harr : (Cond.arrayClass (newarray.typeOf atype)).before args s = true) {ty : FieldType} (hty : newarray.typeOf atype = ty) (hK : va_K D cl tys s) (hP : va_P D cl ws H) (hD : va_D A ws) (hS : va_S A H0 H locs) (hA : ∀ q, H0.size ≤ q → A q) (t0 : Nat) {cI : ClassId} (ht : tys[t0]? = some (cI, ty)) (hone : ∀ c1 c2, va_RA s c1 ty → va_RA s c2 ty → c1 = c2)
    {n : Int32} {N' : Nat} {a0 : vp_A} (ha : ∀ cA : ClassId, vp_cell cA a0 = arrV cA N' (fun _ => defaultValue ty)) (hn : ¬ n < 0) (hN : n.toNatClampNeg = N') (hbytes : N' * componentBytes ty ≤ 536870912) (hcells : cells + 1 ≤ R.cells) (hslots : slots + N' ≤ R.slots) (hdg : decode cc pc = .ok (.newarray atype, 2))
    (kk : ∀ (q : Nat) (H1 : Heap), va_P D cl (ws ++ [(q, .inl (cI, a0))]) H1 → va_D A (ws ++ [(q, .inl (cI, a0))]) → va_S A H0 H1 locs →
      W p l e R s m args below meth c H1 locs (cells + 1) (slots + N') Q (F0 m (pc + 2) ls (.ref q :: rest))) : W p l e R s m args below meth c H locs cells slots Q (F0 m pc ls (.int n :: rest)) := by
  refine va_newa hexec hb harr hty hK hP hD hS hA ha hn hN hbytes hcells hslots hdg (fun q cA H1 hK1 hP1 hD1 hS1 => ?_)
  have e1 : cA = cI := hone cA cI ((hK1.2 tys.length (cA, ty) (by simp)).2) ((hK.2 t0 (cI, ty) ht).2)
  subst e1
  exact kk q H1 hP1 hD1 hS1
end MYC
/-- decode rows of a method, many at once -/
def dchk (c : ByteArray) : List (Nat × Instr × Nat) → Bool
  | [] => true
  | q :: r => decide (decode c q.1 = .ok (q.2.1, q.2.2)) && dchk c r
theorem dchk_at {c : ByteArray} : ∀ {L : List (Nat × Instr × Nat)}, dchk c L = true → ∀ {k pc n : Nat} {i : Instr}, L[k]? = some (pc, i, n) → decode c pc = .ok (i, n) := by
  intro L
  induction L with
  | nil => intro _ k pc n i h; simp at h
  | cons q r ih =>
    intro h k pc n i hk
    have h : (decide (decode c q.1 = .ok (q.2.1, q.2.2)) && dchk c r) = true := h
    rw [Bool.and_eq_true] at h
    cases k with
    | zero =>
      have e : q = (pc, i, n) := Option.some.inj (by simpa using hk)
      subst e
      exact of_decide_eq_true h.1
    | succ k => exact ih h.2 (by simpa using hk)
end
-- 11.fx
section

def ixF {α : Type} (i : Int32) (n : Nat) (g : Option α) : Option α := if i < 0 ∨ n ≤ i.toNatClampNeg then none else g
theorem ix_s {α : Type} {i : Int32} {n : Nat} {g : Option α} {r : α} (h : ixF i n g = some r) : vp_in i n ∧ g = some r := by
  unfold ixF at h
  split at h
  · cases h
  · rename_i q; exact ⟨q, h⟩
def nmF {α β : Type} (x : α) (g : α → Option β) : Option β := g x
theorem nm_s {α β : Type} {x : α} {g : α → Option β} {r : β} (h : nmF x g = some r) : ∃ y, y = x ∧ g y = some r := ⟨x, rfl, h⟩
def nzI {α : Type} (d : Int32) (g : Option α) : Option α := if d = 0 then none else g
theorem nzI_s {α : Type} {d : Int32} {g : Option α} {r : α} (h : nzI d g = some r) : (¬ d = 0) ∧ g = some r := by
  unfold nzI at h
  split at h
  · cases h
  · rename_i q; exact ⟨q, h⟩
def nzL {α : Type} (d : Int64) (g : Option α) : Option α := if d = 0 then none else g
theorem nzL_s {α : Type} {d : Int64} {g : Option α} {r : α} (h : nzL d g = some r) : (¬ d = 0) ∧ g = some r := by
  unfold nzL at h
  split at h
  · cases h
  · rename_i q; exact ⟨q, h⟩
def cpF {α : Type} (sp dp n : Int32) (n0 n1 : Nat) (g : Option α) : Option α := if ¬ sp < 0 ∧ ¬ dp < 0 ∧ ¬ n < 0 ∧ sp.toNatClampNeg + n.toNatClampNeg ≤ n0 ∧ dp.toNatClampNeg + n.toNatClampNeg ≤ n1 then g else none
theorem cp_s {α : Type} {sp dp n : Int32} {n0 n1 : Nat} {g : Option α} {r : α} (h : cpF sp dp n n0 n1 g = some r) : (¬ sp < 0 ∧ ¬ dp < 0 ∧ ¬ n < 0 ∧ sp.toNatClampNeg + n.toNatClampNeg ≤ n0 ∧ dp.toNatClampNeg + n.toNatClampNeg ≤ n1) ∧ g = some r := by
  unfold cpF at h
  split at h
  · rename_i q; exact ⟨q, h⟩
  · cases h
def lpF {σ ρ : Type} (b : σ → Option (σ ⊕ ρ)) : Nat → σ → Option ρ
  | 0, _ => none
  | j + 1, u => match b u with
    | none => none
    | some (.inl u') => lpF b j u'
    | some (.inr r) => some r
theorem lp_rule {σ ρ : Type} {b : σ → Option (σ ⊕ ρ)} {P : σ → Prop} {R : ρ → Prop} (h : ∀ (u : σ) (x : σ ⊕ ρ), b u = some x → (∀ u', x = .inl u' → P u') → (∀ r, x = .inr r → R r) → P u) : ∀ (j : Nat) (u : σ) (r : ρ), lpF b j u = some r → R r → P u := by
  intro j
  induction j with
  | zero => intro u r h1; cases h1
  | succ j ih =>
    intro u r h1 h2
    unfold lpF at h1
    split at h1
    · cases h1
    · rename_i u' e
      exact h u _ e (fun v q => by cases q; exact ih _ _ h1 h2) (fun v q => by cases q)
    · rename_i r' e
      cases h1
      exact h u _ e (fun v q => by cases q) (fun v q => by cases q; exact h2)
theorem ip {p9 : Prop} {d9 : Decidable p9} {α : Type} {a b : Option α} {r : α} (h : p9) (hF : (@ite _ p9 d9 a b) = some r) : a = some r := by rw [if_pos h] at hF; exact hF
theorem inn {p9 : Prop} {d9 : Decidable p9} {α : Type} {a b : Option α} {r : α} (h : ¬ p9) (hF : (@ite _ p9 d9 a b) = some r) : b = some r := by rw [if_neg h] at hF; exact hF
def zbF {α : Type} (v : Int32) (g : Option α) : Option α := if v = 0 ∨ v = 1 then g else none
theorem zb_s {α : Type} {v : Int32} {g : Option α} {r : α} (h : zbF v g = some r) : (v = 0 ∨ v = 1) ∧ g = some r := by
  unfold zbF at h
  split at h
  · rename_i q; exact ⟨q, h⟩
  · cases h
def ltF {α : Type} (i n : Nat) (g : Option α) : Option α := if i < n then g else none
theorem ltF_s {α : Type} {i n : Nat} {g : Option α} {r : α} (h : ltF i n g = some r) : i < n ∧ g = some r := by
  unfold ltF at h
  split at h
  · rename_i q; exact ⟨q, h⟩
  · cases h
def minF (x y : Int32) : Int32 := if y < x then y else x
def maxF (x y : Int32) : Int32 := if x < y then y else x
def absF (x : Int32) : Int32 := if 0 ≤ x then x else 0 - x
def ushrF (x y : Int32) : Int32 := (x.toUInt32 >>> (y.toUInt32 &&& Int32.toUInt32 31)).toInt32
def lushrF (x : Int64) (y : Int32) : Int64 := (x.toUInt64 >>> (y.toInt64.toUInt64 &&& Int64.toUInt64 63)).toInt64
def lshlF (x : Int64) (y : Int32) : Int64 := x <<< (y.toInt64 &&& 63)
theorem inj1 {α : Type} {a b : α} (h : some a = some b) : a = b := Option.some.inj h
def bd1 {t0 β : Type} (x : Option ( t0 )) (f : t0 → Option β) : Option β := x.bind (fun u => f u)
theorem bd1_s {t0 β : Type} {x : Option ( t0 )} {f : t0 → Option β} {r : β} (h : bd1 x f = some r) : ∃ y0, x = some y0 ∧ f y0 = some r := by
  cases x with
  | none => cases h
  | some u => exact ⟨u, rfl, h⟩
def bd2 {t0 t1 β : Type} (x : Option ( t0 × t1 )) (f : t0 → t1 → Option β) : Option β := x.bind (fun u => f u.1 u.2)
theorem bd2_s {t0 t1 β : Type} {x : Option ( t0 × t1 )} {f : t0 → t1 → Option β} {r : β} (h : bd2 x f = some r) : ∃ y0 y1, x = some (y0, y1) ∧ f y0 y1 = some r := by
  cases x with
  | none => cases h
  | some u => exact ⟨u.1, u.2, rfl, h⟩
theorem inj2 {t0 t1 : Type} {a0 b0 : t0} {a1 b1 : t1} (h : some (a0, a1) = some (b0, b1)) : a0 = b0 ∧ a1 = b1 := by
  cases h
  exact ⟨rfl, rfl⟩
def bd3 {t0 t1 t2 β : Type} (x : Option ( t0 × t1 × t2 )) (f : t0 → t1 → t2 → Option β) : Option β := x.bind (fun u => f u.1 u.2.1 u.2.2)
theorem bd3_s {t0 t1 t2 β : Type} {x : Option ( t0 × t1 × t2 )} {f : t0 → t1 → t2 → Option β} {r : β} (h : bd3 x f = some r) : ∃ y0 y1 y2, x = some (y0, y1, y2) ∧ f y0 y1 y2 = some r := by
  cases x with
  | none => cases h
  | some u => exact ⟨u.1, u.2.1, u.2.2, rfl, h⟩
theorem inj3 {t0 t1 t2 : Type} {a0 b0 : t0} {a1 b1 : t1} {a2 b2 : t2} (h : some (a0, a1, a2) = some (b0, b1, b2)) : a0 = b0 ∧ a1 = b1 ∧ a2 = b2 := by
  cases h
  exact ⟨rfl, rfl, rfl⟩
def bd4 {t0 t1 t2 t3 β : Type} (x : Option ( t0 × t1 × t2 × t3 )) (f : t0 → t1 → t2 → t3 → Option β) : Option β := x.bind (fun u => f u.1 u.2.1 u.2.2.1 u.2.2.2)
theorem bd4_s {t0 t1 t2 t3 β : Type} {x : Option ( t0 × t1 × t2 × t3 )} {f : t0 → t1 → t2 → t3 → Option β} {r : β} (h : bd4 x f = some r) : ∃ y0 y1 y2 y3, x = some (y0, y1, y2, y3) ∧ f y0 y1 y2 y3 = some r := by
  cases x with
  | none => cases h
  | some u => exact ⟨u.1, u.2.1, u.2.2.1, u.2.2.2, rfl, h⟩
def bd5 {t0 t1 t2 t3 t4 β : Type} (x : Option ( t0 × t1 × t2 × t3 × t4 )) (f : t0 → t1 → t2 → t3 → t4 → Option β) : Option β := x.bind (fun u => f u.1 u.2.1 u.2.2.1 u.2.2.2.1 u.2.2.2.2)
theorem bd5_s {t0 t1 t2 t3 t4 β : Type} {x : Option ( t0 × t1 × t2 × t3 × t4 )} {f : t0 → t1 → t2 → t3 → t4 → Option β} {r : β} (h : bd5 x f = some r) : ∃ y0 y1 y2 y3 y4, x = some (y0, y1, y2, y3, y4) ∧ f y0 y1 y2 y3 y4 = some r := by
  cases x with
  | none => cases h
  | some u => exact ⟨u.1, u.2.1, u.2.2.1, u.2.2.2.1, u.2.2.2.2, rfl, h⟩
def bd6 {t0 t1 t2 t3 t4 t5 β : Type} (x : Option ( t0 × t1 × t2 × t3 × t4 × t5 )) (f : t0 → t1 → t2 → t3 → t4 → t5 → Option β) : Option β := x.bind (fun u => f u.1 u.2.1 u.2.2.1 u.2.2.2.1 u.2.2.2.2.1 u.2.2.2.2.2)
theorem bd6_s {t0 t1 t2 t3 t4 t5 β : Type} {x : Option ( t0 × t1 × t2 × t3 × t4 × t5 )} {f : t0 → t1 → t2 → t3 → t4 → t5 → Option β} {r : β} (h : bd6 x f = some r) : ∃ y0 y1 y2 y3 y4 y5, x = some (y0, y1, y2, y3, y4, y5) ∧ f y0 y1 y2 y3 y4 y5 = some r := by
  cases x with
  | none => cases h
  | some u => exact ⟨u.1, u.2.1, u.2.2.1, u.2.2.2.1, u.2.2.2.2.1, u.2.2.2.2.2, rfl, h⟩
def bd7 {t0 t1 t2 t3 t4 t5 t6 β : Type} (x : Option ( t0 × t1 × t2 × t3 × t4 × t5 × t6 )) (f : t0 → t1 → t2 → t3 → t4 → t5 → t6 → Option β) : Option β := x.bind (fun u => f u.1 u.2.1 u.2.2.1 u.2.2.2.1 u.2.2.2.2.1 u.2.2.2.2.2.1 u.2.2.2.2.2.2)
theorem bd7_s {t0 t1 t2 t3 t4 t5 t6 β : Type} {x : Option ( t0 × t1 × t2 × t3 × t4 × t5 × t6 )} {f : t0 → t1 → t2 → t3 → t4 → t5 → t6 → Option β} {r : β} (h : bd7 x f = some r) : ∃ y0 y1 y2 y3 y4 y5 y6, x = some (y0, y1, y2, y3, y4, y5, y6) ∧ f y0 y1 y2 y3 y4 y5 y6 = some r := by
  cases x with
  | none => cases h
  | some u => exact ⟨u.1, u.2.1, u.2.2.1, u.2.2.2.1, u.2.2.2.2.1, u.2.2.2.2.2.1, u.2.2.2.2.2.2, rfl, h⟩
def bd8 {t0 t1 t2 t3 t4 t5 t6 t7 β : Type} (x : Option ( t0 × t1 × t2 × t3 × t4 × t5 × t6 × t7 )) (f : t0 → t1 → t2 → t3 → t4 → t5 → t6 → t7 → Option β) : Option β := x.bind (fun u => f u.1 u.2.1 u.2.2.1 u.2.2.2.1 u.2.2.2.2.1 u.2.2.2.2.2.1 u.2.2.2.2.2.2.1 u.2.2.2.2.2.2.2)
theorem bd8_s {t0 t1 t2 t3 t4 t5 t6 t7 β : Type} {x : Option ( t0 × t1 × t2 × t3 × t4 × t5 × t6 × t7 )} {f : t0 → t1 → t2 → t3 → t4 → t5 → t6 → t7 → Option β} {r : β} (h : bd8 x f = some r) : ∃ y0 y1 y2 y3 y4 y5 y6 y7, x = some (y0, y1, y2, y3, y4, y5, y6, y7) ∧ f y0 y1 y2 y3 y4 y5 y6 y7 = some r := by
  cases x with
  | none => cases h
  | some u => exact ⟨u.1, u.2.1, u.2.2.1, u.2.2.2.1, u.2.2.2.2.1, u.2.2.2.2.2.1, u.2.2.2.2.2.2.1, u.2.2.2.2.2.2.2, rfl, h⟩
def bd9 {t0 t1 t2 t3 t4 t5 t6 t7 t8 β : Type} (x : Option ( t0 × t1 × t2 × t3 × t4 × t5 × t6 × t7 × t8 )) (f : t0 → t1 → t2 → t3 → t4 → t5 → t6 → t7 → t8 → Option β) : Option β := x.bind (fun u => f u.1 u.2.1 u.2.2.1 u.2.2.2.1 u.2.2.2.2.1 u.2.2.2.2.2.1 u.2.2.2.2.2.2.1 u.2.2.2.2.2.2.2.1 u.2.2.2.2.2.2.2.2)
theorem bd9_s {t0 t1 t2 t3 t4 t5 t6 t7 t8 β : Type} {x : Option ( t0 × t1 × t2 × t3 × t4 × t5 × t6 × t7 × t8 )} {f : t0 → t1 → t2 → t3 → t4 → t5 → t6 → t7 → t8 → Option β} {r : β} (h : bd9 x f = some r) : ∃ y0 y1 y2 y3 y4 y5 y6 y7 y8, x = some (y0, y1, y2, y3, y4, y5, y6, y7, y8) ∧ f y0 y1 y2 y3 y4 y5 y6 y7 y8 = some r := by
  cases x with
  | none => cases h
  | some u => exact ⟨u.1, u.2.1, u.2.2.1, u.2.2.2.1, u.2.2.2.2.1, u.2.2.2.2.2.1, u.2.2.2.2.2.2.1, u.2.2.2.2.2.2.2.1, u.2.2.2.2.2.2.2.2, rfl, h⟩
def bd10 {t0 t1 t2 t3 t4 t5 t6 t7 t8 t9 β : Type} (x : Option ( t0 × t1 × t2 × t3 × t4 × t5 × t6 × t7 × t8 × t9 )) (f : t0 → t1 → t2 → t3 → t4 → t5 → t6 → t7 → t8 → t9 → Option β) : Option β := x.bind (fun u => f u.1 u.2.1 u.2.2.1 u.2.2.2.1 u.2.2.2.2.1 u.2.2.2.2.2.1 u.2.2.2.2.2.2.1 u.2.2.2.2.2.2.2.1 u.2.2.2.2.2.2.2.2.1 u.2.2.2.2.2.2.2.2.2)
theorem bd10_s {t0 t1 t2 t3 t4 t5 t6 t7 t8 t9 β : Type} {x : Option ( t0 × t1 × t2 × t3 × t4 × t5 × t6 × t7 × t8 × t9 )} {f : t0 → t1 → t2 → t3 → t4 → t5 → t6 → t7 → t8 → t9 → Option β} {r : β} (h : bd10 x f = some r) : ∃ y0 y1 y2 y3 y4 y5 y6 y7 y8 y9, x = some (y0, y1, y2, y3, y4, y5, y6, y7, y8, y9) ∧ f y0 y1 y2 y3 y4 y5 y6 y7 y8 y9 = some r := by
  cases x with
  | none => cases h
  | some u => exact ⟨u.1, u.2.1, u.2.2.1, u.2.2.2.1, u.2.2.2.2.1, u.2.2.2.2.2.1, u.2.2.2.2.2.2.1, u.2.2.2.2.2.2.2.1, u.2.2.2.2.2.2.2.2.1, u.2.2.2.2.2.2.2.2.2, rfl, h⟩
def bd11 {t0 t1 t2 t3 t4 t5 t6 t7 t8 t9 t10 β : Type} (x : Option ( t0 × t1 × t2 × t3 × t4 × t5 × t6 × t7 × t8 × t9 × t10 )) (f : t0 → t1 → t2 → t3 → t4 → t5 → t6 → t7 → t8 → t9 → t10 → Option β) : Option β := x.bind (fun u => f u.1 u.2.1 u.2.2.1 u.2.2.2.1 u.2.2.2.2.1 u.2.2.2.2.2.1 u.2.2.2.2.2.2.1 u.2.2.2.2.2.2.2.1 u.2.2.2.2.2.2.2.2.1 u.2.2.2.2.2.2.2.2.2.1 u.2.2.2.2.2.2.2.2.2.2)
theorem bd11_s {t0 t1 t2 t3 t4 t5 t6 t7 t8 t9 t10 β : Type} {x : Option ( t0 × t1 × t2 × t3 × t4 × t5 × t6 × t7 × t8 × t9 × t10 )} {f : t0 → t1 → t2 → t3 → t4 → t5 → t6 → t7 → t8 → t9 → t10 → Option β} {r : β} (h : bd11 x f = some r) : ∃ y0 y1 y2 y3 y4 y5 y6 y7 y8 y9 y10, x = some (y0, y1, y2, y3, y4, y5, y6, y7, y8, y9, y10) ∧ f y0 y1 y2 y3 y4 y5 y6 y7 y8 y9 y10 = some r := by
  cases x with
  | none => cases h
  | some u => exact ⟨u.1, u.2.1, u.2.2.1, u.2.2.2.1, u.2.2.2.2.1, u.2.2.2.2.2.1, u.2.2.2.2.2.2.1, u.2.2.2.2.2.2.2.1, u.2.2.2.2.2.2.2.2.1, u.2.2.2.2.2.2.2.2.2.1, u.2.2.2.2.2.2.2.2.2.2, rfl, h⟩
def bd12 {t0 t1 t2 t3 t4 t5 t6 t7 t8 t9 t10 t11 β : Type} (x : Option ( t0 × t1 × t2 × t3 × t4 × t5 × t6 × t7 × t8 × t9 × t10 × t11 )) (f : t0 → t1 → t2 → t3 → t4 → t5 → t6 → t7 → t8 → t9 → t10 → t11 → Option β) : Option β := x.bind (fun u => f u.1 u.2.1 u.2.2.1 u.2.2.2.1 u.2.2.2.2.1 u.2.2.2.2.2.1 u.2.2.2.2.2.2.1 u.2.2.2.2.2.2.2.1 u.2.2.2.2.2.2.2.2.1 u.2.2.2.2.2.2.2.2.2.1 u.2.2.2.2.2.2.2.2.2.2.1 u.2.2.2.2.2.2.2.2.2.2.2)
theorem bd12_s {t0 t1 t2 t3 t4 t5 t6 t7 t8 t9 t10 t11 β : Type} {x : Option ( t0 × t1 × t2 × t3 × t4 × t5 × t6 × t7 × t8 × t9 × t10 × t11 )} {f : t0 → t1 → t2 → t3 → t4 → t5 → t6 → t7 → t8 → t9 → t10 → t11 → Option β} {r : β} (h : bd12 x f = some r) : ∃ y0 y1 y2 y3 y4 y5 y6 y7 y8 y9 y10 y11, x = some (y0, y1, y2, y3, y4, y5, y6, y7, y8, y9, y10, y11) ∧ f y0 y1 y2 y3 y4 y5 y6 y7 y8 y9 y10 y11 = some r := by
  cases x with
  | none => cases h
  | some u => exact ⟨u.1, u.2.1, u.2.2.1, u.2.2.2.1, u.2.2.2.2.1, u.2.2.2.2.2.1, u.2.2.2.2.2.2.1, u.2.2.2.2.2.2.2.1, u.2.2.2.2.2.2.2.2.1, u.2.2.2.2.2.2.2.2.2.1, u.2.2.2.2.2.2.2.2.2.2.1, u.2.2.2.2.2.2.2.2.2.2.2, rfl, h⟩
def bd13 {t0 t1 t2 t3 t4 t5 t6 t7 t8 t9 t10 t11 t12 β : Type} (x : Option ( t0 × t1 × t2 × t3 × t4 × t5 × t6 × t7 × t8 × t9 × t10 × t11 × t12 )) (f : t0 → t1 → t2 → t3 → t4 → t5 → t6 → t7 → t8 → t9 → t10 → t11 → t12 → Option β) : Option β := x.bind (fun u => f u.1 u.2.1 u.2.2.1 u.2.2.2.1 u.2.2.2.2.1 u.2.2.2.2.2.1 u.2.2.2.2.2.2.1 u.2.2.2.2.2.2.2.1 u.2.2.2.2.2.2.2.2.1 u.2.2.2.2.2.2.2.2.2.1 u.2.2.2.2.2.2.2.2.2.2.1 u.2.2.2.2.2.2.2.2.2.2.2.1 u.2.2.2.2.2.2.2.2.2.2.2.2)
theorem bd13_s {t0 t1 t2 t3 t4 t5 t6 t7 t8 t9 t10 t11 t12 β : Type} {x : Option ( t0 × t1 × t2 × t3 × t4 × t5 × t6 × t7 × t8 × t9 × t10 × t11 × t12 )} {f : t0 → t1 → t2 → t3 → t4 → t5 → t6 → t7 → t8 → t9 → t10 → t11 → t12 → Option β} {r : β} (h : bd13 x f = some r) : ∃ y0 y1 y2 y3 y4 y5 y6 y7 y8 y9 y10 y11 y12, x = some (y0, y1, y2, y3, y4, y5, y6, y7, y8, y9, y10, y11, y12) ∧ f y0 y1 y2 y3 y4 y5 y6 y7 y8 y9 y10 y11 y12 = some r := by
  cases x with
  | none => cases h
  | some u => exact ⟨u.1, u.2.1, u.2.2.1, u.2.2.2.1, u.2.2.2.2.1, u.2.2.2.2.2.1, u.2.2.2.2.2.2.1, u.2.2.2.2.2.2.2.1, u.2.2.2.2.2.2.2.2.1, u.2.2.2.2.2.2.2.2.2.1, u.2.2.2.2.2.2.2.2.2.2.1, u.2.2.2.2.2.2.2.2.2.2.2.1, u.2.2.2.2.2.2.2.2.2.2.2.2, rfl, h⟩
def bd14 {t0 t1 t2 t3 t4 t5 t6 t7 t8 t9 t10 t11 t12 t13 β : Type} (x : Option ( t0 × t1 × t2 × t3 × t4 × t5 × t6 × t7 × t8 × t9 × t10 × t11 × t12 × t13 )) (f : t0 → t1 → t2 → t3 → t4 → t5 → t6 → t7 → t8 → t9 → t10 → t11 → t12 → t13 → Option β) : Option β := x.bind (fun u => f u.1 u.2.1 u.2.2.1 u.2.2.2.1 u.2.2.2.2.1 u.2.2.2.2.2.1 u.2.2.2.2.2.2.1 u.2.2.2.2.2.2.2.1 u.2.2.2.2.2.2.2.2.1 u.2.2.2.2.2.2.2.2.2.1 u.2.2.2.2.2.2.2.2.2.2.1 u.2.2.2.2.2.2.2.2.2.2.2.1 u.2.2.2.2.2.2.2.2.2.2.2.2.1 u.2.2.2.2.2.2.2.2.2.2.2.2.2)
theorem bd14_s {t0 t1 t2 t3 t4 t5 t6 t7 t8 t9 t10 t11 t12 t13 β : Type} {x : Option ( t0 × t1 × t2 × t3 × t4 × t5 × t6 × t7 × t8 × t9 × t10 × t11 × t12 × t13 )} {f : t0 → t1 → t2 → t3 → t4 → t5 → t6 → t7 → t8 → t9 → t10 → t11 → t12 → t13 → Option β} {r : β} (h : bd14 x f = some r) : ∃ y0 y1 y2 y3 y4 y5 y6 y7 y8 y9 y10 y11 y12 y13, x = some (y0, y1, y2, y3, y4, y5, y6, y7, y8, y9, y10, y11, y12, y13) ∧ f y0 y1 y2 y3 y4 y5 y6 y7 y8 y9 y10 y11 y12 y13 = some r := by
  cases x with
  | none => cases h
  | some u => exact ⟨u.1, u.2.1, u.2.2.1, u.2.2.2.1, u.2.2.2.2.1, u.2.2.2.2.2.1, u.2.2.2.2.2.2.1, u.2.2.2.2.2.2.2.1, u.2.2.2.2.2.2.2.2.1, u.2.2.2.2.2.2.2.2.2.1, u.2.2.2.2.2.2.2.2.2.2.1, u.2.2.2.2.2.2.2.2.2.2.2.1, u.2.2.2.2.2.2.2.2.2.2.2.2.1, u.2.2.2.2.2.2.2.2.2.2.2.2.2, rfl, h⟩
def bd15 {t0 t1 t2 t3 t4 t5 t6 t7 t8 t9 t10 t11 t12 t13 t14 β : Type} (x : Option ( t0 × t1 × t2 × t3 × t4 × t5 × t6 × t7 × t8 × t9 × t10 × t11 × t12 × t13 × t14 )) (f : t0 → t1 → t2 → t3 → t4 → t5 → t6 → t7 → t8 → t9 → t10 → t11 → t12 → t13 → t14 → Option β) : Option β := x.bind (fun u => f u.1 u.2.1 u.2.2.1 u.2.2.2.1 u.2.2.2.2.1 u.2.2.2.2.2.1 u.2.2.2.2.2.2.1 u.2.2.2.2.2.2.2.1 u.2.2.2.2.2.2.2.2.1 u.2.2.2.2.2.2.2.2.2.1 u.2.2.2.2.2.2.2.2.2.2.1 u.2.2.2.2.2.2.2.2.2.2.2.1 u.2.2.2.2.2.2.2.2.2.2.2.2.1 u.2.2.2.2.2.2.2.2.2.2.2.2.2.1 u.2.2.2.2.2.2.2.2.2.2.2.2.2.2)
theorem bd15_s {t0 t1 t2 t3 t4 t5 t6 t7 t8 t9 t10 t11 t12 t13 t14 β : Type} {x : Option ( t0 × t1 × t2 × t3 × t4 × t5 × t6 × t7 × t8 × t9 × t10 × t11 × t12 × t13 × t14 )} {f : t0 → t1 → t2 → t3 → t4 → t5 → t6 → t7 → t8 → t9 → t10 → t11 → t12 → t13 → t14 → Option β} {r : β} (h : bd15 x f = some r) : ∃ y0 y1 y2 y3 y4 y5 y6 y7 y8 y9 y10 y11 y12 y13 y14, x = some (y0, y1, y2, y3, y4, y5, y6, y7, y8, y9, y10, y11, y12, y13, y14) ∧ f y0 y1 y2 y3 y4 y5 y6 y7 y8 y9 y10 y11 y12 y13 y14 = some r := by
  cases x with
  | none => cases h
  | some u => exact ⟨u.1, u.2.1, u.2.2.1, u.2.2.2.1, u.2.2.2.2.1, u.2.2.2.2.2.1, u.2.2.2.2.2.2.1, u.2.2.2.2.2.2.2.1, u.2.2.2.2.2.2.2.2.1, u.2.2.2.2.2.2.2.2.2.1, u.2.2.2.2.2.2.2.2.2.2.1, u.2.2.2.2.2.2.2.2.2.2.2.1, u.2.2.2.2.2.2.2.2.2.2.2.2.1, u.2.2.2.2.2.2.2.2.2.2.2.2.2.1, u.2.2.2.2.2.2.2.2.2.2.2.2.2.2, rfl, h⟩
def bd16 {t0 t1 t2 t3 t4 t5 t6 t7 t8 t9 t10 t11 t12 t13 t14 t15 β : Type} (x : Option ( t0 × t1 × t2 × t3 × t4 × t5 × t6 × t7 × t8 × t9 × t10 × t11 × t12 × t13 × t14 × t15 )) (f : t0 → t1 → t2 → t3 → t4 → t5 → t6 → t7 → t8 → t9 → t10 → t11 → t12 → t13 → t14 → t15 → Option β) : Option β := x.bind (fun u => f u.1 u.2.1 u.2.2.1 u.2.2.2.1 u.2.2.2.2.1 u.2.2.2.2.2.1 u.2.2.2.2.2.2.1 u.2.2.2.2.2.2.2.1 u.2.2.2.2.2.2.2.2.1 u.2.2.2.2.2.2.2.2.2.1 u.2.2.2.2.2.2.2.2.2.2.1 u.2.2.2.2.2.2.2.2.2.2.2.1 u.2.2.2.2.2.2.2.2.2.2.2.2.1 u.2.2.2.2.2.2.2.2.2.2.2.2.2.1 u.2.2.2.2.2.2.2.2.2.2.2.2.2.2.1 u.2.2.2.2.2.2.2.2.2.2.2.2.2.2.2)
theorem bd16_s {t0 t1 t2 t3 t4 t5 t6 t7 t8 t9 t10 t11 t12 t13 t14 t15 β : Type} {x : Option ( t0 × t1 × t2 × t3 × t4 × t5 × t6 × t7 × t8 × t9 × t10 × t11 × t12 × t13 × t14 × t15 )} {f : t0 → t1 → t2 → t3 → t4 → t5 → t6 → t7 → t8 → t9 → t10 → t11 → t12 → t13 → t14 → t15 → Option β} {r : β} (h : bd16 x f = some r) : ∃ y0 y1 y2 y3 y4 y5 y6 y7 y8 y9 y10 y11 y12 y13 y14 y15, x = some (y0, y1, y2, y3, y4, y5, y6, y7, y8, y9, y10, y11, y12, y13, y14, y15) ∧ f y0 y1 y2 y3 y4 y5 y6 y7 y8 y9 y10 y11 y12 y13 y14 y15 = some r := by
  cases x with
  | none => cases h
  | some u => exact ⟨u.1, u.2.1, u.2.2.1, u.2.2.2.1, u.2.2.2.2.1, u.2.2.2.2.2.1, u.2.2.2.2.2.2.1, u.2.2.2.2.2.2.2.1, u.2.2.2.2.2.2.2.2.1, u.2.2.2.2.2.2.2.2.2.1, u.2.2.2.2.2.2.2.2.2.2.1, u.2.2.2.2.2.2.2.2.2.2.2.1, u.2.2.2.2.2.2.2.2.2.2.2.2.1, u.2.2.2.2.2.2.2.2.2.2.2.2.2.1, u.2.2.2.2.2.2.2.2.2.2.2.2.2.2.1, u.2.2.2.2.2.2.2.2.2.2.2.2.2.2.2, rfl, h⟩
def bd17 {t0 t1 t2 t3 t4 t5 t6 t7 t8 t9 t10 t11 t12 t13 t14 t15 t16 β : Type} (x : Option ( t0 × t1 × t2 × t3 × t4 × t5 × t6 × t7 × t8 × t9 × t10 × t11 × t12 × t13 × t14 × t15 × t16 )) (f : t0 → t1 → t2 → t3 → t4 → t5 → t6 → t7 → t8 → t9 → t10 → t11 → t12 → t13 → t14 → t15 → t16 → Option β) : Option β := x.bind (fun u => f u.1 u.2.1 u.2.2.1 u.2.2.2.1 u.2.2.2.2.1 u.2.2.2.2.2.1 u.2.2.2.2.2.2.1 u.2.2.2.2.2.2.2.1 u.2.2.2.2.2.2.2.2.1 u.2.2.2.2.2.2.2.2.2.1 u.2.2.2.2.2.2.2.2.2.2.1 u.2.2.2.2.2.2.2.2.2.2.2.1 u.2.2.2.2.2.2.2.2.2.2.2.2.1 u.2.2.2.2.2.2.2.2.2.2.2.2.2.1 u.2.2.2.2.2.2.2.2.2.2.2.2.2.2.1 u.2.2.2.2.2.2.2.2.2.2.2.2.2.2.2.1 u.2.2.2.2.2.2.2.2.2.2.2.2.2.2.2.2)
theorem bd17_s {t0 t1 t2 t3 t4 t5 t6 t7 t8 t9 t10 t11 t12 t13 t14 t15 t16 β : Type} {x : Option ( t0 × t1 × t2 × t3 × t4 × t5 × t6 × t7 × t8 × t9 × t10 × t11 × t12 × t13 × t14 × t15 × t16 )} {f : t0 → t1 → t2 → t3 → t4 → t5 → t6 → t7 → t8 → t9 → t10 → t11 → t12 → t13 → t14 → t15 → t16 → Option β} {r : β} (h : bd17 x f = some r) : ∃ y0 y1 y2 y3 y4 y5 y6 y7 y8 y9 y10 y11 y12 y13 y14 y15 y16, x = some (y0, y1, y2, y3, y4, y5, y6, y7, y8, y9, y10, y11, y12, y13, y14, y15, y16) ∧ f y0 y1 y2 y3 y4 y5 y6 y7 y8 y9 y10 y11 y12 y13 y14 y15 y16 = some r := by
  cases x with
  | none => cases h
  | some u => exact ⟨u.1, u.2.1, u.2.2.1, u.2.2.2.1, u.2.2.2.2.1, u.2.2.2.2.2.1, u.2.2.2.2.2.2.1, u.2.2.2.2.2.2.2.1, u.2.2.2.2.2.2.2.2.1, u.2.2.2.2.2.2.2.2.2.1, u.2.2.2.2.2.2.2.2.2.2.1, u.2.2.2.2.2.2.2.2.2.2.2.1, u.2.2.2.2.2.2.2.2.2.2.2.2.1, u.2.2.2.2.2.2.2.2.2.2.2.2.2.1, u.2.2.2.2.2.2.2.2.2.2.2.2.2.2.1, u.2.2.2.2.2.2.2.2.2.2.2.2.2.2.2.1, u.2.2.2.2.2.2.2.2.2.2.2.2.2.2.2.2, rfl, h⟩
def bd18 {t0 t1 t2 t3 t4 t5 t6 t7 t8 t9 t10 t11 t12 t13 t14 t15 t16 t17 β : Type} (x : Option ( t0 × t1 × t2 × t3 × t4 × t5 × t6 × t7 × t8 × t9 × t10 × t11 × t12 × t13 × t14 × t15 × t16 × t17 )) (f : t0 → t1 → t2 → t3 → t4 → t5 → t6 → t7 → t8 → t9 → t10 → t11 → t12 → t13 → t14 → t15 → t16 → t17 → Option β) : Option β := x.bind (fun u => f u.1 u.2.1 u.2.2.1 u.2.2.2.1 u.2.2.2.2.1 u.2.2.2.2.2.1 u.2.2.2.2.2.2.1 u.2.2.2.2.2.2.2.1 u.2.2.2.2.2.2.2.2.1 u.2.2.2.2.2.2.2.2.2.1 u.2.2.2.2.2.2.2.2.2.2.1 u.2.2.2.2.2.2.2.2.2.2.2.1 u.2.2.2.2.2.2.2.2.2.2.2.2.1 u.2.2.2.2.2.2.2.2.2.2.2.2.2.1 u.2.2.2.2.2.2.2.2.2.2.2.2.2.2.1 u.2.2.2.2.2.2.2.2.2.2.2.2.2.2.2.1 u.2.2.2.2.2.2.2.2.2.2.2.2.2.2.2.2.1 u.2.2.2.2.2.2.2.2.2.2.2.2.2.2.2.2.2)
theorem bd18_s {t0 t1 t2 t3 t4 t5 t6 t7 t8 t9 t10 t11 t12 t13 t14 t15 t16 t17 β : Type} {x : Option ( t0 × t1 × t2 × t3 × t4 × t5 × t6 × t7 × t8 × t9 × t10 × t11 × t12 × t13 × t14 × t15 × t16 × t17 )} {f : t0 → t1 → t2 → t3 → t4 → t5 → t6 → t7 → t8 → t9 → t10 → t11 → t12 → t13 → t14 → t15 → t16 → t17 → Option β} {r : β} (h : bd18 x f = some r) : ∃ y0 y1 y2 y3 y4 y5 y6 y7 y8 y9 y10 y11 y12 y13 y14 y15 y16 y17, x = some (y0, y1, y2, y3, y4, y5, y6, y7, y8, y9, y10, y11, y12, y13, y14, y15, y16, y17) ∧ f y0 y1 y2 y3 y4 y5 y6 y7 y8 y9 y10 y11 y12 y13 y14 y15 y16 y17 = some r := by
  cases x with
  | none => cases h
  | some u => exact ⟨u.1, u.2.1, u.2.2.1, u.2.2.2.1, u.2.2.2.2.1, u.2.2.2.2.2.1, u.2.2.2.2.2.2.1, u.2.2.2.2.2.2.2.1, u.2.2.2.2.2.2.2.2.1, u.2.2.2.2.2.2.2.2.2.1, u.2.2.2.2.2.2.2.2.2.2.1, u.2.2.2.2.2.2.2.2.2.2.2.1, u.2.2.2.2.2.2.2.2.2.2.2.2.1, u.2.2.2.2.2.2.2.2.2.2.2.2.2.1, u.2.2.2.2.2.2.2.2.2.2.2.2.2.2.1, u.2.2.2.2.2.2.2.2.2.2.2.2.2.2.2.1, u.2.2.2.2.2.2.2.2.2.2.2.2.2.2.2.2.1, u.2.2.2.2.2.2.2.2.2.2.2.2.2.2.2.2.2, rfl, h⟩
def bd19 {t0 t1 t2 t3 t4 t5 t6 t7 t8 t9 t10 t11 t12 t13 t14 t15 t16 t17 t18 β : Type} (x : Option ( t0 × t1 × t2 × t3 × t4 × t5 × t6 × t7 × t8 × t9 × t10 × t11 × t12 × t13 × t14 × t15 × t16 × t17 × t18 )) (f : t0 → t1 → t2 → t3 → t4 → t5 → t6 → t7 → t8 → t9 → t10 → t11 → t12 → t13 → t14 → t15 → t16 → t17 → t18 → Option β) : Option β := x.bind (fun u => f u.1 u.2.1 u.2.2.1 u.2.2.2.1 u.2.2.2.2.1 u.2.2.2.2.2.1 u.2.2.2.2.2.2.1 u.2.2.2.2.2.2.2.1 u.2.2.2.2.2.2.2.2.1 u.2.2.2.2.2.2.2.2.2.1 u.2.2.2.2.2.2.2.2.2.2.1 u.2.2.2.2.2.2.2.2.2.2.2.1 u.2.2.2.2.2.2.2.2.2.2.2.2.1 u.2.2.2.2.2.2.2.2.2.2.2.2.2.1 u.2.2.2.2.2.2.2.2.2.2.2.2.2.2.1 u.2.2.2.2.2.2.2.2.2.2.2.2.2.2.2.1 u.2.2.2.2.2.2.2.2.2.2.2.2.2.2.2.2.1 u.2.2.2.2.2.2.2.2.2.2.2.2.2.2.2.2.2.1 u.2.2.2.2.2.2.2.2.2.2.2.2.2.2.2.2.2.2)
theorem bd19_s {t0 t1 t2 t3 t4 t5 t6 t7 t8 t9 t10 t11 t12 t13 t14 t15 t16 t17 t18 β : Type} {x : Option ( t0 × t1 × t2 × t3 × t4 × t5 × t6 × t7 × t8 × t9 × t10 × t11 × t12 × t13 × t14 × t15 × t16 × t17 × t18 )} {f : t0 → t1 → t2 → t3 → t4 → t5 → t6 → t7 → t8 → t9 → t10 → t11 → t12 → t13 → t14 → t15 → t16 → t17 → t18 → Option β} {r : β} (h : bd19 x f = some r) : ∃ y0 y1 y2 y3 y4 y5 y6 y7 y8 y9 y10 y11 y12 y13 y14 y15 y16 y17 y18, x = some (y0, y1, y2, y3, y4, y5, y6, y7, y8, y9, y10, y11, y12, y13, y14, y15, y16, y17, y18) ∧ f y0 y1 y2 y3 y4 y5 y6 y7 y8 y9 y10 y11 y12 y13 y14 y15 y16 y17 y18 = some r := by
  cases x with
  | none => cases h
  | some u => exact ⟨u.1, u.2.1, u.2.2.1, u.2.2.2.1, u.2.2.2.2.1, u.2.2.2.2.2.1, u.2.2.2.2.2.2.1, u.2.2.2.2.2.2.2.1, u.2.2.2.2.2.2.2.2.1, u.2.2.2.2.2.2.2.2.2.1, u.2.2.2.2.2.2.2.2.2.2.1, u.2.2.2.2.2.2.2.2.2.2.2.1, u.2.2.2.2.2.2.2.2.2.2.2.2.1, u.2.2.2.2.2.2.2.2.2.2.2.2.2.1, u.2.2.2.2.2.2.2.2.2.2.2.2.2.2.1, u.2.2.2.2.2.2.2.2.2.2.2.2.2.2.2.1, u.2.2.2.2.2.2.2.2.2.2.2.2.2.2.2.2.1, u.2.2.2.2.2.2.2.2.2.2.2.2.2.2.2.2.2.1, u.2.2.2.2.2.2.2.2.2.2.2.2.2.2.2.2.2.2, rfl, h⟩
def bd20 {t0 t1 t2 t3 t4 t5 t6 t7 t8 t9 t10 t11 t12 t13 t14 t15 t16 t17 t18 t19 β : Type} (x : Option ( t0 × t1 × t2 × t3 × t4 × t5 × t6 × t7 × t8 × t9 × t10 × t11 × t12 × t13 × t14 × t15 × t16 × t17 × t18 × t19 )) (f : t0 → t1 → t2 → t3 → t4 → t5 → t6 → t7 → t8 → t9 → t10 → t11 → t12 → t13 → t14 → t15 → t16 → t17 → t18 → t19 → Option β) : Option β := x.bind (fun u => f u.1 u.2.1 u.2.2.1 u.2.2.2.1 u.2.2.2.2.1 u.2.2.2.2.2.1 u.2.2.2.2.2.2.1 u.2.2.2.2.2.2.2.1 u.2.2.2.2.2.2.2.2.1 u.2.2.2.2.2.2.2.2.2.1 u.2.2.2.2.2.2.2.2.2.2.1 u.2.2.2.2.2.2.2.2.2.2.2.1 u.2.2.2.2.2.2.2.2.2.2.2.2.1 u.2.2.2.2.2.2.2.2.2.2.2.2.2.1 u.2.2.2.2.2.2.2.2.2.2.2.2.2.2.1 u.2.2.2.2.2.2.2.2.2.2.2.2.2.2.2.1 u.2.2.2.2.2.2.2.2.2.2.2.2.2.2.2.2.1 u.2.2.2.2.2.2.2.2.2.2.2.2.2.2.2.2.2.1 u.2.2.2.2.2.2.2.2.2.2.2.2.2.2.2.2.2.2.1 u.2.2.2.2.2.2.2.2.2.2.2.2.2.2.2.2.2.2.2)
theorem bd20_s {t0 t1 t2 t3 t4 t5 t6 t7 t8 t9 t10 t11 t12 t13 t14 t15 t16 t17 t18 t19 β : Type} {x : Option ( t0 × t1 × t2 × t3 × t4 × t5 × t6 × t7 × t8 × t9 × t10 × t11 × t12 × t13 × t14 × t15 × t16 × t17 × t18 × t19 )} {f : t0 → t1 → t2 → t3 → t4 → t5 → t6 → t7 → t8 → t9 → t10 → t11 → t12 → t13 → t14 → t15 → t16 → t17 → t18 → t19 → Option β} {r : β} (h : bd20 x f = some r) : ∃ y0 y1 y2 y3 y4 y5 y6 y7 y8 y9 y10 y11 y12 y13 y14 y15 y16 y17 y18 y19, x = some (y0, y1, y2, y3, y4, y5, y6, y7, y8, y9, y10, y11, y12, y13, y14, y15, y16, y17, y18, y19) ∧ f y0 y1 y2 y3 y4 y5 y6 y7 y8 y9 y10 y11 y12 y13 y14 y15 y16 y17 y18 y19 = some r := by
  cases x with
  | none => cases h
  | some u => exact ⟨u.1, u.2.1, u.2.2.1, u.2.2.2.1, u.2.2.2.2.1, u.2.2.2.2.2.1, u.2.2.2.2.2.2.1, u.2.2.2.2.2.2.2.1, u.2.2.2.2.2.2.2.2.1, u.2.2.2.2.2.2.2.2.2.1, u.2.2.2.2.2.2.2.2.2.2.1, u.2.2.2.2.2.2.2.2.2.2.2.1, u.2.2.2.2.2.2.2.2.2.2.2.2.1, u.2.2.2.2.2.2.2.2.2.2.2.2.2.1, u.2.2.2.2.2.2.2.2.2.2.2.2.2.2.1, u.2.2.2.2.2.2.2.2.2.2.2.2.2.2.2.1, u.2.2.2.2.2.2.2.2.2.2.2.2.2.2.2.2.1, u.2.2.2.2.2.2.2.2.2.2.2.2.2.2.2.2.2.1, u.2.2.2.2.2.2.2.2.2.2.2.2.2.2.2.2.2.2.1, u.2.2.2.2.2.2.2.2.2.2.2.2.2.2.2.2.2.2.2, rfl, h⟩
section FXC
variable {p : Program} {l : Launch} {e : Env} {R : Room} {s : State} {m : MethodId} {args : Array Value} {below : List Frame} {meth : Method} {c : Code} {H : Heap} {locs : List Loc} {cells slots : Nat} {Q : State → Prop}
variable {pc : Nat} {ls : Array Slot} {rest st0 : List Value} {a : Array Value}
theorem pE_i {r : Int32} (hr : va_Run p l e R s m args below meth c H locs cells slots 0 0 (F0 m pc ls st0) rest (vp_Si (fun q : Int32 => q = r) a) (fun _ => False))
    (kk : W p l e R s m args below meth c H locs cells slots Q (F0 m (pc + 3) ls (.int r :: rest))) : W p l e R s m args below meth c H locs cells slots Q (F0 m pc ls st0) := pc_i hr (fun q h => by rw [h]; exact kk)
theorem pE_l {r : Int64} (hr : va_Run p l e R s m args below meth c H locs cells slots 0 0 (F0 m pc ls st0) rest (vp_Sl (fun q : Int64 => q = r) a) (fun _ => False))
    (kk : W p l e R s m args below meth c H locs cells slots Q (F0 m (pc + 3) ls (.long r :: rest))) : W p l e R s m args below meth c H locs cells slots Q (F0 m pc ls st0) := pc_l hr (fun q h => by rw [h]; exact kk)
theorem pE_b {r : Int32} (hr : va_Run p l e R s m args below meth c H locs cells slots 0 0 (F0 m pc ls st0) rest (vp_Si (fun q : Int32 => q = r ∧ narrow .byte (.int q) = .int q) a) (fun _ => False))
    (kk : narrow .byte (.int r) = .int r → W p l e R s m args below meth c H locs cells slots Q (F0 m (pc + 3) ls (.int r :: rest))) : W p l e R s m args below meth c H locs cells slots Q (F0 m pc ls st0) := pc_i hr (fun q h => by obtain ⟨h1, h2⟩ := h; rw [h1] at h2 ⊢; exact kk h2)
theorem pE_c {r : Int32} (hr : va_Run p l e R s m args below meth c H locs cells slots 0 0 (F0 m pc ls st0) rest (vp_Si (fun q : Int32 => q = r ∧ narrow .char (.int q) = .int q) a) (fun _ => False))
    (kk : narrow .char (.int r) = .int r → W p l e R s m args below meth c H locs cells slots Q (F0 m (pc + 3) ls (.int r :: rest))) : W p l e R s m args below meth c H locs cells slots Q (F0 m pc ls st0) := pc_i hr (fun q h => by obtain ⟨h1, h2⟩ := h; rw [h1] at h2 ⊢; exact kk h2)
theorem pE_z {r : Int32} (hr : va_Run p l e R s m args below meth c H locs cells slots 0 0 (F0 m pc ls st0) rest (vp_Si (fun q : Int32 => q = r ∧ (q = 0 ∨ q = 1)) a) (fun _ => False))
    (kk : (r = 0 ∨ r = 1) → W p l e R s m args below meth c H locs cells slots Q (F0 m (pc + 3) ls (.int r :: rest))) : W p l e R s m args below meth c H locs cells slots Q (F0 m pc ls st0) := pc_i hr (fun q h => by obtain ⟨h1, h2⟩ := h; rw [h1] at h2 ⊢; exact kk h2)
theorem cE_i {D : va_G} {cl : List vw_C} {ws wc wr w1 : va_W} {A0 : Nat → Prop} {H0 : Heap} {r : Int32} (hr : va_Run p l e R s m args below meth c H locs cells slots 0 0 (F0 m pc ls st0) rest (va_Qi (fun (q : Int32) (_u : Unit) => q = r) (fun (_u : Unit) tt => va_P D cl w1 tt.heap ∧ va_D (va_A wc H.size) w1) (va_A wc H.size) a) (va_A wc H.size)) (hS : va_S A0 H0 H locs) (hFc : ∀ q, va_A wc H.size q → A0 q) (hP : va_P D cl ws H) (hD : va_D A0 ws) (isC isR : List Nat) (hC : isC.map (fun i => ws[i]?) = wc.map some) (hR : isR.map (fun i => ws[i]?) = wr.map some) (hn : va_nd isR = true) (hdis : ∀ i ∈ isR, i ∉ isC)
    (kk : ∀ (H1 : Heap) (locs1 : List Loc), va_P D cl (wr ++ w1) H1 → va_D A0 (wr ++ w1) → va_S A0 H0 H1 locs1 → W p l e R s m args below meth c H1 locs1 cells slots Q (F0 m (pc + 3) ls (.int r :: rest))) : W p l e R s m args below meth c H locs cells slots Q (F0 m pc ls st0) := by
  refine va_calli hr hS (fun q _ h => hFc q h) hFc (fun q u tt H1 locs1 ht hvm hw hB hz1 hk1 hS1 => ?_)
  obtain ⟨hP1, hD1⟩ := hB
  rw [ht] at hP1
  obtain ⟨a1, a2⟩ := va_join hP hD isC isR hC hR hn hdis hk1 hFc hP1 hD1
  rw [hw]; exact kk H1 locs1 a1 a2 hS1
theorem cE_l {D : va_G} {cl : List vw_C} {ws wc wr w1 : va_W} {A0 : Nat → Prop} {H0 : Heap} {r : Int64} (hr : va_Run p l e R s m args below meth c H locs cells slots 0 0 (F0 m pc ls st0) rest (va_Ql (fun (q : Int64) (_u : Unit) => q = r) (fun (_u : Unit) tt => va_P D cl w1 tt.heap ∧ va_D (va_A wc H.size) w1) (va_A wc H.size) a) (va_A wc H.size)) (hS : va_S A0 H0 H locs) (hFc : ∀ q, va_A wc H.size q → A0 q) (hP : va_P D cl ws H) (hD : va_D A0 ws) (isC isR : List Nat) (hC : isC.map (fun i => ws[i]?) = wc.map some) (hR : isR.map (fun i => ws[i]?) = wr.map some) (hn : va_nd isR = true) (hdis : ∀ i ∈ isR, i ∉ isC)
    (kk : ∀ (H1 : Heap) (locs1 : List Loc), va_P D cl (wr ++ w1) H1 → va_D A0 (wr ++ w1) → va_S A0 H0 H1 locs1 → W p l e R s m args below meth c H1 locs1 cells slots Q (F0 m (pc + 3) ls (.long r :: rest))) : W p l e R s m args below meth c H locs cells slots Q (F0 m pc ls st0) := by
  refine va_calll hr hS (fun q _ h => hFc q h) hFc (fun q u tt H1 locs1 ht hvm hw hB hz1 hk1 hS1 => ?_)
  obtain ⟨hP1, hD1⟩ := hB
  rw [ht] at hP1
  obtain ⟨a1, a2⟩ := va_join hP hD isC isR hC hR hn hdis hk1 hFc hP1 hD1
  rw [hw]; exact kk H1 locs1 a1 a2 hS1
theorem cE_z {D : va_G} {cl : List vw_C} {ws wc wr w1 : va_W} {A0 : Nat → Prop} {H0 : Heap} {r : Int32} (hr : va_Run p l e R s m args below meth c H locs cells slots 0 0 (F0 m pc ls st0) rest (va_Qi (fun (q : Int32) (_u : Unit) => q = r ∧ (q = 0 ∨ q = 1)) (fun (_u : Unit) tt => va_P D cl w1 tt.heap ∧ va_D (va_A wc H.size) w1) (va_A wc H.size) a) (va_A wc H.size)) (hS : va_S A0 H0 H locs) (hFc : ∀ q, va_A wc H.size q → A0 q) (hP : va_P D cl ws H) (hD : va_D A0 ws) (isC isR : List Nat) (hC : isC.map (fun i => ws[i]?) = wc.map some) (hR : isR.map (fun i => ws[i]?) = wr.map some) (hn : va_nd isR = true) (hdis : ∀ i ∈ isR, i ∉ isC)
    (kk : (r = 0 ∨ r = 1) → ∀ (H1 : Heap) (locs1 : List Loc), va_P D cl (wr ++ w1) H1 → va_D A0 (wr ++ w1) → va_S A0 H0 H1 locs1 → W p l e R s m args below meth c H1 locs1 cells slots Q (F0 m (pc + 3) ls (.int r :: rest))) : W p l e R s m args below meth c H locs cells slots Q (F0 m pc ls st0) := by
  refine va_calli hr hS (fun q _ h => hFc q h) hFc (fun q u tt H1 locs1 ht hvm hw hB hz1 hk1 hS1 => ?_)
  obtain ⟨hP1, hD1⟩ := hB
  rw [ht] at hP1
  obtain ⟨a1, a2⟩ := va_join hP hD isC isR hC hR hn hdis hk1 hFc hP1 hD1
  obtain ⟨hw1, hw2⟩ := hw
  rw [hw1] at hw2 ⊢
  exact kk hw2 H1 locs1 a1 a2 hS1
theorem cE_v {D : va_G} {cl : List vw_C} {ws wc wr w1 : va_W} {A0 : Nat → Prop} {H0 : Heap} (hr : va_Run p l e R s m args below meth c H locs cells slots 0 0 (F0 m pc ls st0) rest (va_Qv (fun (_u : Unit) => True) (fun (_u : Unit) tt => va_P D cl w1 tt.heap ∧ va_D (va_A wc H.size) w1) (va_A wc H.size) a) (va_A wc H.size)) (hS : va_S A0 H0 H locs) (hFc : ∀ q, va_A wc H.size q → A0 q) (hP : va_P D cl ws H) (hD : va_D A0 ws) (isC isR : List Nat) (hC : isC.map (fun i => ws[i]?) = wc.map some) (hR : isR.map (fun i => ws[i]?) = wr.map some) (hn : va_nd isR = true) (hdis : ∀ i ∈ isR, i ∉ isC)
    (kk : ∀ (H1 : Heap) (locs1 : List Loc), va_P D cl (wr ++ w1) H1 → va_D A0 (wr ++ w1) → va_S A0 H0 H1 locs1 → W p l e R s m args below meth c H1 locs1 cells slots Q (F0 m (pc + 3) ls (rest))) : W p l e R s m args below meth c H locs cells slots Q (F0 m pc ls st0) := by
  refine va_callv hr hS (fun q _ h => hFc q h) hFc (fun u tt H1 locs1 ht hvm hw hB hz1 hk1 hS1 => ?_)
  obtain ⟨hP1, hD1⟩ := hB
  rw [ht] at hP1
  obtain ⟨a1, a2⟩ := va_join hP hD isC isR hC hR hn hdis hk1 hFc hP1 hD1
  exact kk H1 locs1 a1 a2 hS1
end FXC
theorem Met.ofWF {l : Launch} {y : MethodName} {ws ws' : List Cond} {rm : Room} {Pc : Array Value → State → Prop} {Qc : Array Value → State → Outcome → State → Prop} {mc ms : Nat} {free : Addr → Prop} {cc : ByteArray} {maxL : Nat} {ret : Option FieldType}
    (hy : plainFor y = true) (hw : ws = Cond.code y cc maxL ret :: ws')
    (go : ∀ p e s m args below meth c s₁, BodyLoose p l y (headSpec ws rm) cc maxL ret e s m args below meth c s₁ → c.maxLocals = maxL → Pc args s →
      W p l e (headSpec ws rm).room s m args below meth c s.heap [] 0 0 (MQ below Qc args s mc ms free) (entryFrame m args maxL)) : Met l y ws rm Pc Qc mc ms free :=
  MetFree.of_bodySF (code := cc) (maxLocals := maxL) (ret := ret) hy
    (fun args s m h hn => by
      have q := atoms_spec (ws := ws) h (Cond.code y cc maxL ret) (by rw [hw]; exact List.mem_cons_self)
      obtain ⟨meth, c, h1, h2, h3, h4, h5, h6, -⟩ := Cond.code_spec hn q
      exact ⟨meth, c, h1, h2, h3, h4, h5, h6⟩)
    (fun p e s m args below meth c s₁ B hml hP _ => by
      obtain ⟨t, a1, o, b1, b2, b3⟩ := go p e s m args below meth c s₁ B hml hP s₁ (by rw [B.state]; rfl) (Stand.of_body B)
      exact ⟨t, o, a1, b1, b2, ⟨b3.1, b3.2⟩⟩)
end
