/-! ===== BEGIN printed: names, fields, word lists, decode rows ===== -/
def RX0 : String := "LastCook$Law"
def TX0 : u_T := fun k => match k with
  | 0 => ("LastCook$Law", "code", "[I", true)
  | 1 => ("LastCook$Law", "stack", "[I", true)
  | 2 => ("LastCook$Law", "facts", "[I", true)
  | 3 => ("LastCook$Law", "length", "I", false)
  | _ => ("LastCook$Law", "top", "I", false)
def tyX0 : Nat → FieldType := fun k => match k with
  | 0 => .array .int
  | 1 => .array .int
  | 2 => .array .int
  | 3 => .int
  | _ => .int
abbrev wsX00 : List Cond := u_ws RX0 TX0 5
theorem nmX0 : ∀ a, a < 5 → ∀ b, b < 5 → a ≠ b → (TX0 a).2.1 ≠ (TX0 b).2.1 := by decide +kernel
theorem tyX0_ok : ∀ k, k < 5 → parseFieldDescriptor (TX0 k).2.2.1 = some (tyX0 k) := by decide +kernel
abbrev cX0_init : ByteArray := prog_2_method_1_code
def yX0_init : MethodName := ⟨RX0, "<init>", "()V"⟩
abbrev cX0_clear : ByteArray := prog_2_method_2_code
def yX0_clear : MethodName := ⟨RX0, "clear", "()V"⟩
abbrev cX0_takeTastes : ByteArray := prog_2_method_3_code
def yX0_takeTastes : MethodName := ⟨RX0, "takeTastes", "(LLastCook$Tape;)Z"⟩
abbrev cX0_readOver : ByteArray := prog_2_method_4_code
def yX0_readOver : MethodName := ⟨RX0, "readOver", "(LLastCook$Tape;II)Z"⟩
abbrev cX0_readPart : ByteArray := prog_2_method_5_code
def yX0_readPart : MethodName := ⟨RX0, "readPart", "(LLastCook$Tape;I)Z"⟩
abbrev cX0_write : ByteArray := prog_2_method_6_code
def yX0_write : MethodName := ⟨RX0, "write", "(I)V"⟩
abbrev cX0_operatorAt : ByteArray := prog_2_method_7_code
def yX0_operatorAt : MethodName := ⟨RX0, "operatorAt", "(LLastCook$Tape;)I"⟩
abbrev cX0_tightnessOf : ByteArray := prog_2_method_8_code
def yX0_tightnessOf : MethodName := ⟨RX0, "tightnessOf", "(I)I"⟩
abbrev cX0_taste : ByteArray := prog_2_method_9_code
def yX0_taste : MethodName := ⟨RX0, "taste", "(IIII)I"⟩
abbrev cX0_work : ByteArray := prog_2_method_10_code
def yX0_work : MethodName := ⟨RX0, "work", "(I)V"⟩
abbrev cX0_push : ByteArray := prog_2_method_11_code
def yX0_push : MethodName := ⟨RX0, "push", "(I)V"⟩
abbrev cX0_join : ByteArray := prog_2_method_12_code
def yX0_join : MethodName := ⟨RX0, "join", "(III)I"⟩
def RX1 : String := "LastCook$Lines"
def TX1 : u_T := fun k => match k with
  | 0 => ("LastCook$Lines", "deeds", "[I", true)
  | 1 => ("LastCook$Lines", "guests", "[I", true)
  | 2 => ("LastCook$Lines", "wholes", "[I", true)
  | _ => ("LastCook$Lines", "size", "I", false)
def tyX1 : Nat → FieldType := fun k => match k with
  | 0 => .array .int
  | 1 => .array .int
  | 2 => .array .int
  | _ => .int
abbrev wsX10 : List Cond := u_ws RX1 TX1 4
theorem nmX1 : ∀ a, a < 4 → ∀ b, b < 4 → a ≠ b → (TX1 a).2.1 ≠ (TX1 b).2.1 := by decide +kernel
theorem tyX1_ok : ∀ k, k < 4 → parseFieldDescriptor (TX1 k).2.2.1 = some (tyX1 k) := by decide +kernel
abbrev cX1_init : ByteArray := prog_3_method_1_code
def yX1_init : MethodName := ⟨RX1, "<init>", "()V"⟩
abbrev cX1_clear : ByteArray := prog_3_method_2_code
def yX1_clear : MethodName := ⟨RX1, "clear", "()V"⟩
abbrev cX1_copyFrom : ByteArray := prog_3_method_3_code
def yX1_copyFrom : MethodName := ⟨RX1, "copyFrom", "(LLastCook$Lines;)V"⟩
abbrev cX1_read : ByteArray := prog_3_method_4_code
def yX1_read : MethodName := ⟨RX1, "read", "(LLastCook$Tape;LLastCook$Told;)Z"⟩
abbrev cX1_readLine : ByteArray := prog_3_method_5_code
def yX1_readLine : MethodName := ⟨RX1, "readLine", "(LLastCook$Tape;LLastCook$Told;)Z"⟩
abbrev cX1_readHired : ByteArray := prog_3_method_6_code
def yX1_readHired : MethodName := ⟨RX1, "readHired", "(LLastCook$Tape;LLastCook$Told;I)Z"⟩
abbrev cX1_readName : ByteArray := prog_3_method_7_code
def yX1_readName : MethodName := ⟨RX1, "readName", "(LLastCook$Tape;LLastCook$Told;)I"⟩
abbrev cX1_play : ByteArray := prog_3_method_8_code
def yX1_play : MethodName := ⟨RX1, "play", "(ILLastCook$Road;LLastCook$Told;)Z"⟩
def RX2 : String := "LastCook$Mark"
def TX2 : u_T := fun k => match k with
  | 0 => ("LastCook$Mark", "road", "LLastCook$Road;", true)
  | 1 => ("LastCook$Mark", "lines", "LLastCook$Lines;", true)
  | 2 => ("LastCook$Mark", "sights", "LLastCook$Sights;", true)
  | _ => ("LastCook$Mark", "laid", "Z", false)
def tyX2 : Nat → FieldType := fun k => match k with
  | 0 => .object "LastCook$Road"
  | 1 => .object "LastCook$Lines"
  | 2 => .object "LastCook$Sights"
  | _ => .boolean
abbrev wsX20 : List Cond := u_ws RX2 TX2 4
theorem nmX2 : ∀ a, a < 4 → ∀ b, b < 4 → a ≠ b → (TX2 a).2.1 ≠ (TX2 b).2.1 := by decide +kernel
theorem tyX2_ok : ∀ k, k < 4 → parseFieldDescriptor (TX2 k).2.2.1 = some (tyX2 k) := by decide +kernel
abbrev cX2_init : ByteArray := prog_4_method_1_code
def yX2_init : MethodName := ⟨RX2, "<init>", "()V"⟩
def RX3 : String := "LastCook$Past"
def TX3 : u_T := fun k => match k with
  | 0 => ("LastCook$Past", "kept", "[LLastCook$Road;", true)
  | 1 => ("LastCook$Past", "first", "I", false)
  | _ => ("LastCook$Past", "size", "I", false)
def tyX3 : Nat → FieldType := fun k => match k with
  | 0 => .array (.object "LastCook$Road")
  | 1 => .int
  | _ => .int
abbrev wsX30 : List Cond := u_ws RX3 TX3 3
theorem nmX3 : ∀ a, a < 3 → ∀ b, b < 3 → a ≠ b → (TX3 a).2.1 ≠ (TX3 b).2.1 := by decide +kernel
theorem tyX3_ok : ∀ k, k < 3 → parseFieldDescriptor (TX3 k).2.2.1 = some (tyX3 k) := by decide +kernel
abbrev cX3_init : ByteArray := prog_5_method_1_code
def yX3_init : MethodName := ⟨RX3, "<init>", "()V"⟩
abbrev cX3_clear : ByteArray := prog_5_method_2_code
def yX3_clear : MethodName := ⟨RX3, "clear", "()V"⟩
abbrev cX3_keep : ByteArray := prog_5_method_3_code
def yX3_keep : MethodName := ⟨RX3, "keep", "(LLastCook$Road;)V"⟩
abbrev cX3_giveBack : ByteArray := prog_5_method_4_code
def yX3_giveBack : MethodName := ⟨RX3, "giveBack", "(LLastCook$Road;)Z"⟩
def RX4 : String := "LastCook$Road"
def TX4 : u_T := fun k => match k with
  | 0 => ("LastCook$Road", "yards", "[I", true)
  | 1 => ("LastCook$Road", "paces", "[I", true)
  | 2 => ("LastCook$Road", "stuck", "[I", true)
  | 3 => ("LastCook$Road", "hirers", "[I", true)
  | 4 => ("LastCook$Road", "places", "[I", true)
  | 5 => ("LastCook$Road", "cameAt", "[I", true)
  | 6 => ("LastCook$Road", "cooked", "[I", true)
  | 7 => ("LastCook$Road", "inside", "I", false)
  | 8 => ("LastCook$Road", "night", "I", false)
  | 9 => ("LastCook$Road", "minute", "I", false)
  | 10 => ("LastCook$Road", "tasted", "I", false)
  | 11 => ("LastCook$Road", "lastCook", "I", false)
  | _ => ("LastCook$Road", "stirred", "Z", false)
def tyX4 : Nat → FieldType := fun k => match k with
  | 0 => .array .int
  | 1 => .array .int
  | 2 => .array .int
  | 3 => .array .int
  | 4 => .array .int
  | 5 => .array .int
  | 6 => .array .int
  | 7 => .int
  | 8 => .int
  | 9 => .int
  | 10 => .int
  | 11 => .int
  | _ => .boolean
abbrev wsX40 : List Cond := u_ws RX4 TX4 13
theorem nmX4 : ∀ a, a < 13 → ∀ b, b < 13 → a ≠ b → (TX4 a).2.1 ≠ (TX4 b).2.1 := by decide +kernel
theorem tyX4_ok : ∀ k, k < 13 → parseFieldDescriptor (TX4 k).2.2.1 = some (tyX4 k) := by decide +kernel
abbrev cX4_init : ByteArray := prog_6_method_1_code
def yX4_init : MethodName := ⟨RX4, "<init>", "()V"⟩
abbrev cX4_begin : ByteArray := prog_6_method_2_code
def yX4_begin : MethodName := ⟨RX4, "begin", "(LLastCook$Told;)V"⟩
abbrev cX4_beginNight : ByteArray := prog_6_method_3_code
def yX4_beginNight : MethodName := ⟨RX4, "beginNight", "(LLastCook$Told;)V"⟩
abbrev cX4_copyFrom : ByteArray := prog_6_method_4_code
def yX4_copyFrom : MethodName := ⟨RX4, "copyFrom", "(LLastCook$Road;)V"⟩
abbrev cX4_isOnRoad : ByteArray := prog_6_method_5_code
def yX4_isOnRoad : MethodName := ⟨RX4, "isOnRoad", "(I)Z"⟩
abbrev cX4_onRoadWithin : ByteArray := prog_6_method_6_code
def yX4_onRoadWithin : MethodName := ⟨RX4, "onRoadWithin", "(II)I"⟩
abbrev cX4_noFarther : ByteArray := prog_6_method_7_code
def yX4_noFarther : MethodName := ⟨RX4, "noFarther", "(II)I"⟩
abbrev cX4_loseWheel : ByteArray := prog_6_method_8_code
def yX4_loseWheel : MethodName := ⟨RX4, "loseWheel", "(II)Z"⟩
abbrev cX4_quicken : ByteArray := prog_6_method_9_code
def yX4_quicken : MethodName := ⟨RX4, "quicken", "(II)Z"⟩
abbrev cX4_canEngage : ByteArray := prog_6_method_10_code
def yX4_canEngage : MethodName := ⟨RX4, "canEngage", "(II)Z"⟩
abbrev cX4_engage : ByteArray := prog_6_method_11_code
def yX4_engage : MethodName := ⟨RX4, "engage", "(II)Z"⟩
abbrev cX4_holdingBack : ByteArray := prog_6_method_12_code
def yX4_holdingBack : MethodName := ⟨RX4, "holdingBack", "(LLastCook$Told;)I"⟩
abbrev cX4_isSomeoneOutWhoIsNotGreat : ByteArray := prog_6_method_13_code
def yX4_isSomeoneOutWhoIsNotGreat : MethodName := ⟨RX4, "isSomeoneOutWhoIsNotGreat", "(LLastCook$Told;)Z"⟩
abbrev cX4_walk : ByteArray := prog_6_method_14_code
def yX4_walk : MethodName := ⟨RX4, "walk", "(LLastCook$Told;I)V"⟩
abbrev cX4_walkOn : ByteArray := prog_6_method_15_code
def yX4_walkOn : MethodName := ⟨RX4, "walkOn", "(LLastCook$Told;)V"⟩
abbrev cX4_pass : ByteArray := prog_6_method_16_code
def yX4_pass : MethodName := ⟨RX4, "pass", "(LLastCook$Told;)I"⟩
abbrev cX4_passBySnow : ByteArray := prog_6_method_17_code
def yX4_passBySnow : MethodName := ⟨RX4, "passBySnow", "(LLastCook$Told;I)I"⟩
abbrev cX4_cookAtTable : ByteArray := prog_6_method_18_code
def yX4_cookAtTable : MethodName := ⟨RX4, "cookAtTable", "(LLastCook$Told;)I"⟩
abbrev cX4_eat : ByteArray := prog_6_method_19_code
def yX4_eat : MethodName := ⟨RX4, "eat", "(LLastCook$Told;I)V"⟩
abbrev cX4_atPlace : ByteArray := prog_6_method_20_code
def yX4_atPlace : MethodName := ⟨RX4, "atPlace", "(I)I"⟩
abbrev cX4_cameIn : ByteArray := prog_6_method_21_code
def yX4_cameIn : MethodName := ⟨RX4, "cameIn", "(I)I"⟩
abbrev cX4_goOn : ByteArray := prog_6_method_22_code
def yX4_goOn : MethodName := ⟨RX4, "goOn", "(LLastCook$Told;I)I"⟩
def RX5 : String := "LastCook$Sights"
def TX5 : u_T := fun k => match k with
  | 0 => ("LastCook$Sights", "minutes", "[I", true)
  | 1 => ("LastCook$Sights", "yards", "[I", true)
  | 2 => ("LastCook$Sights", "near", "[Z", true)
  | _ => ("LastCook$Sights", "size", "I", false)
def tyX5 : Nat → FieldType := fun k => match k with
  | 0 => .array .int
  | 1 => .array .int
  | 2 => .array .boolean
  | _ => .int
abbrev wsX50 : List Cond := u_ws RX5 TX5 4
theorem nmX5 : ∀ a, a < 4 → ∀ b, b < 4 → a ≠ b → (TX5 a).2.1 ≠ (TX5 b).2.1 := by decide +kernel
theorem tyX5_ok : ∀ k, k < 4 → parseFieldDescriptor (TX5 k).2.2.1 = some (tyX5 k) := by decide +kernel
abbrev cX5_init : ByteArray := prog_7_method_1_code
def yX5_init : MethodName := ⟨RX5, "<init>", "()V"⟩
abbrev cX5_clear : ByteArray := prog_7_method_2_code
def yX5_clear : MethodName := ⟨RX5, "clear", "()V"⟩
abbrev cX5_copyFrom : ByteArray := prog_7_method_3_code
def yX5_copyFrom : MethodName := ⟨RX5, "copyFrom", "(LLastCook$Sights;)V"⟩
abbrev cX5_add : ByteArray := prog_7_method_4_code
def yX5_add : MethodName := ⟨RX5, "add", "(IIZ)Z"⟩
abbrev cX5_lastMinute : ByteArray := prog_7_method_5_code
def yX5_lastMinute : MethodName := ⟨RX5, "lastMinute", "()I"⟩
abbrev cX5_fitting : ByteArray := prog_7_method_6_code
def yX5_fitting : MethodName := ⟨RX5, "fitting", "(ILLastCook$Road;)I"⟩
def RX6 : String := "LastCook$Tape"
def TX6 : u_T := fun k => match k with
  | 0 => ("LastCook$Tape", "signs", "[B", true)
  | 1 => ("LastCook$Tape", "words", "[J", true)
  | 2 => ("LastCook$Tape", "length", "I", false)
  | 3 => ("LastCook$Tape", "next", "I", false)
  | 4 => ("LastCook$Tape", "place", "I", false)
  | 5 => ("LastCook$Tape", "kind", "I", false)
  | 6 => ("LastCook$Tape", "value", "I", false)
  | 7 => ("LastCook$Tape", "letters", "J", false)
  | _ => ("LastCook$Tape", "fault", "I", false)
def tyX6 : Nat → FieldType := fun k => match k with
  | 0 => .array .byte
  | 1 => .array .long
  | 2 => .int
  | 3 => .int
  | 4 => .int
  | 5 => .int
  | 6 => .int
  | 7 => .long
  | _ => .int
abbrev wsX60 : List Cond := u_ws RX6 TX6 9
theorem nmX6 : ∀ a, a < 9 → ∀ b, b < 9 → a ≠ b → (TX6 a).2.1 ≠ (TX6 b).2.1 := by decide +kernel
theorem tyX6_ok : ∀ k, k < 9 → parseFieldDescriptor (TX6 k).2.2.1 = some (tyX6 k) := by decide +kernel
abbrev cX6_init : ByteArray := prog_8_method_1_code
def yX6_init : MethodName := ⟨RX6, "<init>", "()V"⟩
abbrev cX6_put : ByteArray := prog_8_method_2_code
def yX6_put : MethodName := ⟨RX6, "put", "(J)V"⟩
abbrev cX6_clear : ByteArray := prog_8_method_3_code
def yX6_clear : MethodName := ⟨RX6, "clear", "()V"⟩
abbrev cX6_rewind : ByteArray := prog_8_method_4_code
def yX6_rewind : MethodName := ⟨RX6, "rewind", "()V"⟩
abbrev cX6_advance : ByteArray := prog_8_method_5_code
def yX6_advance : MethodName := ⟨RX6, "advance", "()V"⟩
abbrev cX6_readWord : ByteArray := prog_8_method_6_code
def yX6_readWord : MethodName := ⟨RX6, "readWord", "()V"⟩
abbrev cX6_readNumber : ByteArray := prog_8_method_7_code
def yX6_readNumber : MethodName := ⟨RX6, "readNumber", "()V"⟩
abbrev cX6_isLetter : ByteArray := prog_8_method_8_code
def yX6_isLetter : MethodName := ⟨RX6, "isLetter", "(I)Z"⟩
abbrev cX6_isDigit : ByteArray := prog_8_method_9_code
def yX6_isDigit : MethodName := ⟨RX6, "isDigit", "(I)Z"⟩
abbrev cX6_withLetter : ByteArray := prog_8_method_10_code
def yX6_withLetter : MethodName := ⟨RX6, "withLetter", "(JI)J"⟩
abbrev cX6_isAtEnd : ByteArray := prog_8_method_11_code
def yX6_isAtEnd : MethodName := ⟨RX6, "isAtEnd", "()Z"⟩
abbrev cX6_isName : ByteArray := prog_8_method_12_code
def yX6_isName : MethodName := ⟨RX6, "isName", "()Z"⟩
abbrev cX6_isNumber : ByteArray := prog_8_method_13_code
def yX6_isNumber : MethodName := ⟨RX6, "isNumber", "()Z"⟩
abbrev cX6_isSign : ByteArray := prog_8_method_14_code
def yX6_isSign : MethodName := ⟨RX6, "isSign", "(C)Z"⟩
abbrev cX6_isWord : ByteArray := prog_8_method_15_code
def yX6_isWord : MethodName := ⟨RX6, "isWord", "(I)Z"⟩
abbrev cX6_wordHere : ByteArray := prog_8_method_16_code
def yX6_wordHere : MethodName := ⟨RX6, "wordHere", "()I"⟩
abbrev cX6_wrong : ByteArray := prog_8_method_17_code
def yX6_wrong : MethodName := ⟨RX6, "wrong", "(I)Z"⟩
abbrev cX6_takeSign : ByteArray := prog_8_method_18_code
def yX6_takeSign : MethodName := ⟨RX6, "takeSign", "(C)Z"⟩
abbrev cX6_takeWord : ByteArray := prog_8_method_19_code
def yX6_takeWord : MethodName := ⟨RX6, "takeWord", "(I)Z"⟩
abbrev cX6_checkNumber : ByteArray := prog_8_method_20_code
def yX6_checkNumber : MethodName := ⟨RX6, "checkNumber", "(II)Z"⟩
abbrev cX6_takeNumber : ByteArray := prog_8_method_21_code
def yX6_takeNumber : MethodName := ⟨RX6, "takeNumber", "(II)I"⟩
def RX7 : String := "LastCook$Told"
def TX7 : u_T := fun k => match k with
  | 0 => ("LastCook$Told", "names", "[J", true)
  | 1 => ("LastCook$Told", "kinds", "[I", true)
  | 2 => ("LastCook$Told", "yards", "[I", true)
  | 3 => ("LastCook$Told", "paces", "[I", true)
  | 4 => ("LastCook$Told", "skills", "[I", true)
  | 5 => ("LastCook$Told", "snow", "[I", true)
  | 6 => ("LastCook$Told", "law", "LLastCook$Law;", true)
  | 7 => ("LastCook$Told", "guests", "I", false)
  | 8 => ("LastCook$Told", "snows", "I", false)
  | 9 => ("LastCook$Told", "bend", "I", false)
  | 10 => ("LastCook$Told", "hour", "I", false)
  | 11 => ("LastCook$Told", "bendTold", "Z", false)
  | _ => ("LastCook$Told", "hourTold", "Z", false)
def tyX7 : Nat → FieldType := fun k => match k with
  | 0 => .array .long
  | 1 => .array .int
  | 2 => .array .int
  | 3 => .array .int
  | 4 => .array .int
  | 5 => .array .int
  | 6 => .object "LastCook$Law"
  | 7 => .int
  | 8 => .int
  | 9 => .int
  | 10 => .int
  | 11 => .boolean
  | _ => .boolean
abbrev wsX70 : List Cond := u_ws RX7 TX7 13
theorem nmX7 : ∀ a, a < 13 → ∀ b, b < 13 → a ≠ b → (TX7 a).2.1 ≠ (TX7 b).2.1 := by decide +kernel
theorem tyX7_ok : ∀ k, k < 13 → parseFieldDescriptor (TX7 k).2.2.1 = some (tyX7 k) := by decide +kernel
abbrev cX7_init : ByteArray := prog_9_method_1_code
def yX7_init : MethodName := ⟨RX7, "<init>", "()V"⟩
abbrev cX7_clear : ByteArray := prog_9_method_2_code
def yX7_clear : MethodName := ⟨RX7, "clear", "()V"⟩
abbrev cX7_read : ByteArray := prog_9_method_3_code
def yX7_read : MethodName := ⟨RX7, "read", "(LLastCook$Tape;)Z"⟩
abbrev cX7_readGuest : ByteArray := prog_9_method_4_code
def yX7_readGuest : MethodName := ⟨RX7, "readGuest", "(LLastCook$Tape;)Z"⟩
abbrev cX7_readMeasure : ByteArray := prog_9_method_5_code
def yX7_readMeasure : MethodName := ⟨RX7, "readMeasure", "(LLastCook$Tape;III)I"⟩
abbrev cX7_readBend : ByteArray := prog_9_method_6_code
def yX7_readBend : MethodName := ⟨RX7, "readBend", "(LLastCook$Tape;)Z"⟩
abbrev cX7_readHour : ByteArray := prog_9_method_7_code
def yX7_readHour : MethodName := ⟨RX7, "readHour", "(LLastCook$Tape;)Z"⟩
abbrev cX7_readSnow : ByteArray := prog_9_method_8_code
def yX7_readSnow : MethodName := ⟨RX7, "readSnow", "(LLastCook$Tape;)Z"⟩
abbrev cX7_numberOf : ByteArray := prog_9_method_9_code
def yX7_numberOf : MethodName := ⟨RX7, "numberOf", "(J)I"⟩
abbrev cX7_snowAt : ByteArray := prog_9_method_10_code
def yX7_snowAt : MethodName := ⟨RX7, "snowAt", "(I)I"⟩
def RX8 : String := "LastCook"
def TX8 : u_T := fun k => match k with
  | 0 => ("LastCook", "tape", "LLastCook$Tape;", true)
  | 1 => ("LastCook", "told", "LLastCook$Told;", false)
  | 2 => ("LastCook", "draft", "LLastCook$Told;", false)
  | 3 => ("LastCook", "lines", "LLastCook$Lines;", false)
  | 4 => ("LastCook", "draftLines", "LLastCook$Lines;", false)
  | 5 => ("LastCook", "now", "LLastCook$Road;", true)
  | 6 => ("LastCook", "trial", "LLastCook$Road;", true)
  | 7 => ("LastCook", "sights", "LLastCook$Sights;", true)
  | 8 => ("LastCook", "past", "LLastCook$Past;", true)
  | 9 => ("LastCook", "marks", "[LLastCook$Mark;", true)
  | _ => ("LastCook", "drawn", "J", false)
def tyX8 : Nat → FieldType := fun k => match k with
  | 0 => .object "LastCook$Tape"
  | 1 => .object "LastCook$Told"
  | 2 => .object "LastCook$Told"
  | 3 => .object "LastCook$Lines"
  | 4 => .object "LastCook$Lines"
  | 5 => .object "LastCook$Road"
  | 6 => .object "LastCook$Road"
  | 7 => .object "LastCook$Sights"
  | 8 => .object "LastCook$Past"
  | 9 => .array (.object "LastCook$Mark")
  | _ => .long
abbrev wsX80 : List Cond := u_ws RX8 TX8 11
theorem nmX8 : ∀ a, a < 11 → ∀ b, b < 11 → a ≠ b → (TX8 a).2.1 ≠ (TX8 b).2.1 := by decide +kernel
theorem tyX8_ok : ∀ k, k < 11 → parseFieldDescriptor (TX8 k).2.2.1 = some (tyX8 k) := by decide +kernel
abbrev cX8_init : ByteArray := prog_1_method_1_code
def yX8_init : MethodName := ⟨RX8, "<init>", "()V"⟩
abbrev cX8_feed : ByteArray := prog_1_method_2_code
def yX8_feed : MethodName := ⟨RX8, "feed", "(JJJ)I"⟩
abbrev cX8_supper : ByteArray := prog_1_method_3_code
def yX8_supper : MethodName := ⟨RX8, "supper", "()I"⟩
abbrev cX8_beginAnew : ByteArray := prog_1_method_4_code
def yX8_beginAnew : MethodName := ⟨RX8, "beginAnew", "()V"⟩
abbrev cX8_night : ByteArray := prog_1_method_5_code
def yX8_night : MethodName := ⟨RX8, "night", "()I"⟩
abbrev cX8_guest : ByteArray := prog_1_method_6_code
def yX8_guest : MethodName := ⟨RX8, "guest", "(II)I"⟩
abbrev cX8_wheel : ByteArray := prog_1_method_7_code
def yX8_wheel : MethodName := ⟨RX8, "wheel", "(II)I"⟩
abbrev cX8_run : ByteArray := prog_1_method_8_code
def yX8_run : MethodName := ⟨RX8, "run", "(II)I"⟩
abbrev cX8_hire : ByteArray := prog_1_method_9_code
def yX8_hire : MethodName := ⟨RX8, "hire", "(II)Z"⟩
abbrev cX8_minute : ByteArray := prog_1_method_10_code
def yX8_minute : MethodName := ⟨RX8, "minute", "()I"⟩
abbrev cX8_undo : ByteArray := prog_1_method_11_code
def yX8_undo : MethodName := ⟨RX8, "undo", "()Z"⟩
abbrev cX8_judged : ByteArray := prog_1_method_12_code
def yX8_judged : MethodName := ⟨RX8, "judged", "(I)I"⟩
abbrev cX8_when : ByteArray := prog_1_method_13_code
def yX8_when : MethodName := ⟨RX8, "when", "()I"⟩
abbrev cX8_cook : ByteArray := prog_1_method_14_code
def yX8_cook : MethodName := ⟨RX8, "cook", "()I"⟩
abbrev cX8_order : ByteArray := prog_1_method_15_code
def yX8_order : MethodName := ⟨RX8, "order", "(I)I"⟩
abbrev cX8_later : ByteArray := prog_1_method_16_code
def yX8_later : MethodName := ⟨RX8, "later", "(II)I"⟩
abbrev cX8_nights : ByteArray := prog_1_method_17_code
def yX8_nights : MethodName := ⟨RX8, "nights", "(I)I"⟩
abbrev cX8_delay : ByteArray := prog_1_method_18_code
def yX8_delay : MethodName := ⟨RX8, "delay", "(I)I"⟩
abbrev cX8_spare : ByteArray := prog_1_method_19_code
def yX8_spare : MethodName := ⟨RX8, "spare", "(I)I"⟩
abbrev cX8_best : ByteArray := prog_1_method_20_code
def yX8_best : MethodName := ⟨RX8, "best", "()I"⟩
abbrev cX8_excuse : ByteArray := prog_1_method_21_code
def yX8_excuse : MethodName := ⟨RX8, "excuse", "(I)I"⟩
abbrev cX8_meets : ByteArray := prog_1_method_22_code
def yX8_meets : MethodName := ⟨RX8, "meets", "(II)I"⟩
abbrev cX8_near : ByteArray := prog_1_method_23_code
def yX8_near : MethodName := ⟨RX8, "near", "(I)I"⟩
abbrev cX8_with : ByteArray := prog_1_method_24_code
def yX8_with : MethodName := ⟨RX8, "with", "(I)I"⟩
abbrev cX8_boy : ByteArray := prog_1_method_25_code
def yX8_boy : MethodName := ⟨RX8, "boy", "(I)I"⟩
abbrev cX8_held : ByteArray := prog_1_method_26_code
def yX8_held : MethodName := ⟨RX8, "held", "()I"⟩
abbrev cX8_fair : ByteArray := prog_1_method_27_code
def yX8_fair : MethodName := ⟨RX8, "fair", "()I"⟩
abbrev cX8_see : ByteArray := prog_1_method_28_code
def yX8_see : MethodName := ⟨RX8, "see", "(IIZ)Z"⟩
abbrev cX8_who : ByteArray := prog_1_method_29_code
def yX8_who : MethodName := ⟨RX8, "who", "()I"⟩
abbrev cX8_ask : ByteArray := prog_1_method_30_code
def yX8_ask : MethodName := ⟨RX8, "ask", "()I"⟩
abbrev cX8_chance : ByteArray := prog_1_method_31_code
def yX8_chance : MethodName := ⟨RX8, "chance", "(III)I"⟩
abbrev cX8_rests : ByteArray := prog_1_method_32_code
def yX8_rests : MethodName := ⟨RX8, "rests", "(IIII)I"⟩
abbrev cX8_years : ByteArray := prog_1_method_33_code
def yX8_years : MethodName := ⟨RX8, "years", "(III)I"⟩
abbrev cX8_mark : ByteArray := prog_1_method_34_code
def yX8_mark : MethodName := ⟨RX8, "mark", "(IZ)Z"⟩
abbrev cX8_count : ByteArray := prog_1_method_35_code
def yX8_count : MethodName := ⟨RX8, "count", "(I)I"⟩
abbrev cX8_isWithin : ByteArray := prog_1_method_36_code
def yX8_isWithin : MethodName := ⟨RX8, "isWithin", "(III)Z"⟩
abbrev cX8_isGuest : ByteArray := prog_1_method_37_code
def yX8_isGuest : MethodName := ⟨RX8, "isGuest", "(I)Z"⟩
abbrev cX8_isGuestOnRoad : ByteArray := prog_1_method_38_code
def yX8_isGuestOnRoad : MethodName := ⟨RX8, "isGuestOnRoad", "(I)Z"⟩
abbrev cX8_lookAhead : ByteArray := prog_1_method_39_code
def yX8_lookAhead : MethodName := ⟨RX8, "lookAhead", "(I)V"⟩
abbrev cX8_nextCook : ByteArray := prog_1_method_40_code
def yX8_nextCook : MethodName := ⟨RX8, "nextCook", "()I"⟩
abbrev cX8_nextTaste : ByteArray := prog_1_method_41_code
def yX8_nextTaste : MethodName := ⟨RX8, "nextTaste", "()I"⟩
abbrev cX8_suspects : ByteArray := prog_1_method_42_code
def yX8_suspects : MethodName := ⟨RX8, "suspects", "()I"⟩
abbrev cX8_isInBySnows : ByteArray := prog_1_method_43_code
def yX8_isInBySnows : MethodName := ⟨RX8, "isInBySnows", "(III)Z"⟩
abbrev cX8_power : ByteArray := prog_1_method_44_code
def yX8_power : MethodName := ⟨RX8, "power", "(II)I"⟩
abbrev cX8_isContent : ByteArray := prog_1_method_45_code
def yX8_isContent : MethodName := ⟨RX8, "isContent", "(IIIII)Z"⟩
abbrev cX8_gain : ByteArray := prog_1_method_46_code
def yX8_gain : MethodName := ⟨RX8, "gain", "(IIIII)I"⟩
abbrev cX8_drawDeed : ByteArray := prog_1_method_47_code
def yX8_drawDeed : MethodName := ⟨RX8, "drawDeed", "()V"⟩
abbrev cX8_draw : ByteArray := prog_1_method_48_code
def yX8_draw : MethodName := ⟨RX8, "draw", "(I)I"⟩
def RX9 : String := "LastCookModel"
def TX9 : u_T := fun k => match k with
  | 0 => ("LastCookModel", "thrown", "I", false)
  | 1 => ("LastCookModel", "taped", "I", false)
  | 2 => ("LastCookModel", "tape", "[I", true)
  | 3 => ("LastCookModel", "size", "I", false)
  | 4 => ("LastCookModel", "place", "I", false)
  | 5 => ("LastCookModel", "begin", "I", false)
  | 6 => ("LastCookModel", "token", "I", false)
  | 7 => ("LastCookModel", "word", "J", false)
  | 8 => ("LastCookModel", "told", "I", false)
  | 9 => ("LastCookModel", "wrong", "I", false)
  | 10 => ("LastCookModel", "supper", "[I", true)
  | 11 => ("LastCookModel", "guestName", "[J", true)
  | 12 => ("LastCookModel", "kind", "[I", true)
  | 13 => ("LastCookModel", "offTold", "[I", true)
  | 14 => ("LastCookModel", "pace", "[I", true)
  | 15 => ("LastCookModel", "cooks", "[I", true)
  | 16 => ("LastCookModel", "snow", "[I", true)
  | 17 => ("LastCookModel", "lineFrom", "[I", true)
  | 18 => ("LastCookModel", "lineTo", "[I", true)
  | 19 => ("LastCookModel", "codes", "[I", true)
  | 20 => ("LastCookModel", "code", "I", false)
  | 21 => ("LastCookModel", "toldLines", "I", false)
  | 22 => ("LastCookModel", "opened", "[I", true)
  | 23 => ("LastCookModel", "compared", "[Z", true)
  | 24 => ("LastCookModel", "kept", "[I", true)
  | 25 => ("LastCookModel", "keptBy", "[I", true)
  | 26 => ("LastCookModel", "ahead", "[I", true)
  | 27 => ("LastCookModel", "against", "[I", true)
  | 28 => ("LastCookModel", "sum", "[I", true)
  | 29 => ("LastCookModel", "sumBy", "[I", true)
  | 30 => ("LastCookModel", "term", "[I", true)
  | 31 => ("LastCookModel", "termBy", "[I", true)
  | 32 => ("LastCookModel", "byNot", "[I", true)
  | 33 => ("LastCookModel", "valueOf", "[I", true)
  | 34 => ("LastCookModel", "given", "I", false)
  | 35 => ("LastCookModel", "lines", "[I", true)
  | 36 => ("LastCookModel", "lineWhat", "[I", true)
  | 37 => ("LastCookModel", "lineA", "[I", true)
  | 38 => ("LastCookModel", "lineB", "[I", true)
  | 39 => ("LastCookModel", "seens", "[I", true)
  | 40 => ("LastCookModel", "seenIn", "[I", true)
  | 41 => ("LastCookModel", "seenYards", "[I", true)
  | 42 => ("LastCookModel", "seenNear", "[Z", true)
  | 43 => ("LastCookModel", "s", "[I", true)
  | 44 => ("LastCookModel", "aside", "[I", true)
  | 45 => ("LastCookModel", "before", "[I", true)
  | 46 => ("LastCookModel", "marked", "[I", true)
  | 47 => ("LastCookModel", "undone", "[I", true)
  | 48 => ("LastCookModel", "isLaid", "[Z", true)
  | 49 => ("LastCookModel", "done", "I", false)
  | 50 => ("LastCookModel", "snowNow", "I", false)
  | 51 => ("LastCookModel", "cameNow", "I", false)
  | 52 => ("LastCookModel", "cookThen", "I", false)
  | 53 => ("LastCookModel", "tasteThen", "I", false)
  | 54 => ("LastCookModel", "places", "[I", true)
  | 55 => ("LastCookModel", "comesAt", "[I", true)
  | 56 => ("LastCookModel", "yardsIn", "[I", true)
  | _ => ("LastCookModel", "g", "J", false)
def tyX9 : Nat → FieldType := fun k => match k with
  | 0 => .int
  | 1 => .int
  | 2 => .array .int
  | 3 => .int
  | 4 => .int
  | 5 => .int
  | 6 => .int
  | 7 => .long
  | 8 => .int
  | 9 => .int
  | 10 => .array .int
  | 11 => .array .long
  | 12 => .array .int
  | 13 => .array .int
  | 14 => .array .int
  | 15 => .array .int
  | 16 => .array .int
  | 17 => .array .int
  | 18 => .array .int
  | 19 => .array .int
  | 20 => .int
  | 21 => .int
  | 22 => .array .int
  | 23 => .array .boolean
  | 24 => .array .int
  | 25 => .array .int
  | 26 => .array .int
  | 27 => .array .int
  | 28 => .array .int
  | 29 => .array .int
  | 30 => .array .int
  | 31 => .array .int
  | 32 => .array .int
  | 33 => .array .int
  | 34 => .int
  | 35 => .array .int
  | 36 => .array .int
  | 37 => .array .int
  | 38 => .array .int
  | 39 => .array .int
  | 40 => .array .int
  | 41 => .array .int
  | 42 => .array .boolean
  | 43 => .array .int
  | 44 => .array .int
  | 45 => .array .int
  | 46 => .array .int
  | 47 => .array .int
  | 48 => .array .boolean
  | 49 => .int
  | 50 => .int
  | 51 => .int
  | 52 => .int
  | 53 => .int
  | 54 => .array .int
  | 55 => .array .int
  | 56 => .array .int
  | _ => .long
abbrev wsX90 : List Cond := u_ws RX9 TX9 58
theorem nmX9 : ∀ a, a < 58 → ∀ b, b < 58 → a ≠ b → (TX9 a).2.1 ≠ (TX9 b).2.1 := by decide +kernel
theorem tyX9_ok : ∀ k, k < 58 → parseFieldDescriptor (TX9 k).2.2.1 = some (tyX9 k) := by decide +kernel
abbrev cX9_init : ByteArray := prog_11_method_1_code
def yX9_init : MethodName := ⟨RX9, "<init>", "()V"⟩
abbrev cX9_within : ByteArray := prog_11_method_3_code
def yX9_within : MethodName := ⟨RX9, "within", "(III)Z"⟩
abbrev cX9_between : ByteArray := prog_11_method_4_code
def yX9_between : MethodName := ⟨RX9, "between", "(III)I"⟩
abbrev cX9_bits : ByteArray := prog_11_method_5_code
def yX9_bits : MethodName := ⟨RX9, "bits", "(I)I"⟩
abbrev cX9_feed : ByteArray := prog_11_method_6_code
def yX9_feed : MethodName := ⟨RX9, "feed", "(JJJ)I"⟩
abbrev cX9_signAt : ByteArray := prog_11_method_7_code
def yX9_signAt : MethodName := ⟨RX9, "signAt", "(I)I"⟩
abbrev cX9_nextToken : ByteArray := prog_11_method_8_code
def yX9_nextToken : MethodName := ⟨RX9, "nextToken", "()V"⟩
abbrev cX9_isWord : ByteArray := prog_11_method_9_code
def yX9_isWord : MethodName := ⟨RX9, "isWord", "(J)Z"⟩
abbrev cX9_isSign : ByteArray := prog_11_method_10_code
def yX9_isSign : MethodName := ⟨RX9, "isSign", "(I)Z"⟩
abbrev cX9_fails : ByteArray := prog_11_method_11_code
def yX9_fails : MethodName := ⟨RX9, "fails", "(I)Z"⟩
abbrev cX9_usual : ByteArray := prog_11_method_12_code
def yX9_usual : MethodName := ⟨RX9, "usual", "(I)V"⟩
abbrev cX9_puts : ByteArray := prog_11_method_13_code
def yX9_puts : MethodName := ⟨RX9, "puts", "(I)V"⟩
abbrev cX9_fact : ByteArray := prog_11_method_14_code
def yX9_fact : MethodName := ⟨RX9, "fact", "()I"⟩
abbrev cX9_reads : ByteArray := prog_11_method_15_code
def yX9_reads : MethodName := ⟨RX9, "reads", "()Z"⟩
abbrev cX9_opens : ByteArray := prog_11_method_16_code
def yX9_opens : MethodName := ⟨RX9, "opens", "(I)V"⟩
abbrev cX9_sums : ByteArray := prog_11_method_17_code
def yX9_sums : MethodName := ⟨RX9, "sums", "(I)V"⟩
abbrev cX9_tests : ByteArray := prog_11_method_18_code
def yX9_tests : MethodName := ⟨RX9, "tests", "(I)V"⟩
abbrev cX9_worked : ByteArray := prog_11_method_19_code
def yX9_worked : MethodName := ⟨RX9, "worked", "(I)I"⟩
abbrev cX9_isKept : ByteArray := prog_11_method_20_code
def yX9_isKept : MethodName := ⟨RX9, "isKept", "()Z"⟩
abbrev cX9_guestNamed : ByteArray := prog_11_method_21_code
def yX9_guestNamed : MethodName := ⟨RX9, "guestNamed", "(I)I"⟩
abbrev cX9_needsNumber : ByteArray := prog_11_method_22_code
def yX9_needsNumber : MethodName := ⟨RX9, "needsNumber", "(II)Z"⟩
abbrev cX9_needsBoth : ByteArray := prog_11_method_23_code
def yX9_needsBoth : MethodName := ⟨RX9, "needsBoth", "(JII)Z"⟩
abbrev cX9_closes : ByteArray := prog_11_method_24_code
def yX9_closes : MethodName := ⟨RX9, "closes", "()Z"⟩
abbrev cX9_needsGuest : ByteArray := prog_11_method_25_code
def yX9_needsGuest : MethodName := ⟨RX9, "needsGuest", "()Z"⟩
abbrev cX9_readsGuest : ByteArray := prog_11_method_26_code
def yX9_readsGuest : MethodName := ⟨RX9, "readsGuest", "()Z"⟩
abbrev cX9_readsOne : ByteArray := prog_11_method_27_code
def yX9_readsOne : MethodName := ⟨RX9, "readsOne", "(II)Z"⟩
abbrev cX9_readsSnow : ByteArray := prog_11_method_28_code
def yX9_readsSnow : MethodName := ⟨RX9, "readsSnow", "()Z"⟩
abbrev cX9_readsTastes : ByteArray := prog_11_method_29_code
def yX9_readsTastes : MethodName := ⟨RX9, "readsTastes", "()Z"⟩
abbrev cX9_begins : ByteArray := prog_11_method_30_code
def yX9_begins : MethodName := ⟨RX9, "begins", "()V"⟩
abbrev cX9_readsAll : ByteArray := prog_11_method_31_code
def yX9_readsAll : MethodName := ⟨RX9, "readsAll", "()Z"⟩
abbrev cX9_shifts : ByteArray := prog_11_method_32_code
def yX9_shifts : MethodName := ⟨RX9, "shifts", "([II)V"⟩
abbrev cX9_lays : ByteArray := prog_11_method_33_code
def yX9_lays : MethodName := ⟨RX9, "lays", "()V"⟩
abbrev cX9_copies : ByteArray := prog_11_method_34_code
def yX9_copies : MethodName := ⟨RX9, "copies", "([II[II)V"⟩
abbrev cX9_readsLine : ByteArray := prog_11_method_35_code
def yX9_readsLine : MethodName := ⟨RX9, "readsLine", "()Z"⟩
abbrev cX9_laysLines : ByteArray := prog_11_method_36_code
def yX9_laysLines : MethodName := ⟨RX9, "laysLines", "(II)V"⟩
abbrev cX9_laysSeen : ByteArray := prog_11_method_37_code
def yX9_laysSeen : MethodName := ⟨RX9, "laysSeen", "(II)V"⟩
abbrev cX9_sets : ByteArray := prog_11_method_38_code
def yX9_sets : MethodName := ⟨RX9, "sets", "()V"⟩
abbrev cX9_fresh0 : ByteArray := prog_11_method_39_code
def yX9_fresh0 : MethodName := ⟨RX9, "fresh0", "()V"⟩
abbrev cX9_supper : ByteArray := prog_11_method_40_code
def yX9_supper : MethodName := ⟨RX9, "supper", "()I"⟩
abbrev cX9_night : ByteArray := prog_11_method_41_code
def yX9_night : MethodName := ⟨RX9, "night", "()I"⟩
abbrev cX9_isGuest : ByteArray := prog_11_method_42_code
def yX9_isGuest : MethodName := ⟨RX9, "isGuest", "(I)Z"⟩
abbrev cX9_isIn : ByteArray := prog_11_method_43_code
def yX9_isIn : MethodName := ⟨RX9, "isIn", "(I)Z"⟩
abbrev cX9_onRoad : ByteArray := prog_11_method_44_code
def yX9_onRoad : MethodName := ⟨RX9, "onRoad", "()I"⟩
abbrev cX9_paceOf : ByteArray := prog_11_method_45_code
def yX9_paceOf : MethodName := ⟨RX9, "paceOf", "(I)I"⟩
abbrev cX9_greats : ByteArray := prog_11_method_46_code
def yX9_greats : MethodName := ⟨RX9, "greats", "()I"⟩
abbrev cX9_holds : ByteArray := prog_11_method_47_code
def yX9_holds : MethodName := ⟨RX9, "holds", "(II)Z"⟩
abbrev cX9_snowOf : ByteArray := prog_11_method_48_code
def yX9_snowOf : MethodName := ⟨RX9, "snowOf", "(I)I"⟩
abbrev cX9_goes : ByteArray := prog_11_method_49_code
def yX9_goes : MethodName := ⟨RX9, "goes", "(II)V"⟩
abbrev cX9_cookNow : ByteArray := prog_11_method_50_code
def yX9_cookNow : MethodName := ⟨RX9, "cookNow", "()I"⟩
abbrev cX9_isEatenBy : ByteArray := prog_11_method_51_code
def yX9_isEatenBy : MethodName := ⟨RX9, "isEatenBy", "(I)V"⟩
abbrev cX9_passes : ByteArray := prog_11_method_52_code
def yX9_passes : MethodName := ⟨RX9, "passes", "()I"⟩
abbrev cX9_guest : ByteArray := prog_11_method_53_code
def yX9_guest : MethodName := ⟨RX9, "guest", "(II)I"⟩
abbrev cX9_keeps : ByteArray := prog_11_method_54_code
def yX9_keeps : MethodName := ⟨RX9, "keeps", "()V"⟩
abbrev cX9_wheels : ByteArray := prog_11_method_55_code
def yX9_wheels : MethodName := ⟨RX9, "wheels", "(II)V"⟩
abbrev cX9_runs : ByteArray := prog_11_method_56_code
def yX9_runs : MethodName := ⟨RX9, "runs", "(II)V"⟩
abbrev cX9_isOnRoad : ByteArray := prog_11_method_57_code
def yX9_isOnRoad : MethodName := ⟨RX9, "isOnRoad", "(I)Z"⟩
abbrev cX9_canHire : ByteArray := prog_11_method_58_code
def yX9_canHire : MethodName := ⟨RX9, "canHire", "(II)Z"⟩
abbrev cX9_wheel : ByteArray := prog_11_method_59_code
def yX9_wheel : MethodName := ⟨RX9, "wheel", "(II)I"⟩
abbrev cX9_run : ByteArray := prog_11_method_60_code
def yX9_run : MethodName := ⟨RX9, "run", "(II)I"⟩
abbrev cX9_hire : ByteArray := prog_11_method_61_code
def yX9_hire : MethodName := ⟨RX9, "hire", "(II)Z"⟩
abbrev cX9_minute : ByteArray := prog_11_method_62_code
def yX9_minute : MethodName := ⟨RX9, "minute", "()I"⟩
abbrev cX9_undo : ByteArray := prog_11_method_63_code
def yX9_undo : MethodName := ⟨RX9, "undo", "()Z"⟩
abbrev cX9_isDone : ByteArray := prog_11_method_64_code
def yX9_isDone : MethodName := ⟨RX9, "isDone", "(I)Z"⟩
abbrev cX9_judged : ByteArray := prog_11_method_65_code
def yX9_judged : MethodName := ⟨RX9, "judged", "(I)I"⟩
abbrev cX9_eats : ByteArray := prog_11_method_66_code
def yX9_eats : MethodName := ⟨RX9, "eats", "()I"⟩
abbrev cX9_when : ByteArray := prog_11_method_67_code
def yX9_when : MethodName := ⟨RX9, "when", "()I"⟩
abbrev cX9_cook : ByteArray := prog_11_method_68_code
def yX9_cook : MethodName := ⟨RX9, "cook", "()I"⟩
abbrev cX9_laysPlaces : ByteArray := prog_11_method_69_code
def yX9_laysPlaces : MethodName := ⟨RX9, "laysPlaces", "()V"⟩
abbrev cX9_order : ByteArray := prog_11_method_70_code
def yX9_order : MethodName := ⟨RX9, "order", "(I)I"⟩
abbrev cX9_with : ByteArray := prog_11_method_71_code
def yX9_with : MethodName := ⟨RX9, "with", "(I)I"⟩
abbrev cX9_later : ByteArray := prog_11_method_72_code
def yX9_later : MethodName := ⟨RX9, "later", "(II)I"⟩
abbrev cX9_nights : ByteArray := prog_11_method_73_code
def yX9_nights : MethodName := ⟨RX9, "nights", "(I)I"⟩
abbrev cX9_delay : ByteArray := prog_11_method_74_code
def yX9_delay : MethodName := ⟨RX9, "delay", "(I)I"⟩
abbrev cX9_spare : ByteArray := prog_11_method_75_code
def yX9_spare : MethodName := ⟨RX9, "spare", "(I)I"⟩
abbrev cX9_best : ByteArray := prog_11_method_76_code
def yX9_best : MethodName := ⟨RX9, "best", "()I"⟩
abbrev cX9_excuse : ByteArray := prog_11_method_77_code
def yX9_excuse : MethodName := ⟨RX9, "excuse", "(I)I"⟩
abbrev cX9_meets : ByteArray := prog_11_method_78_code
def yX9_meets : MethodName := ⟨RX9, "meets", "(II)I"⟩
abbrev cX9_near : ByteArray := prog_11_method_79_code
def yX9_near : MethodName := ⟨RX9, "near", "(I)I"⟩
abbrev cX9_boy : ByteArray := prog_11_method_80_code
def yX9_boy : MethodName := ⟨RX9, "boy", "(I)I"⟩
abbrev cX9_held : ByteArray := prog_11_method_81_code
def yX9_held : MethodName := ⟨RX9, "held", "()I"⟩
abbrev cX9_fair : ByteArray := prog_11_method_82_code
def yX9_fair : MethodName := ⟨RX9, "fair", "()I"⟩
abbrev cX9_laysYards : ByteArray := prog_11_method_83_code
def yX9_laysYards : MethodName := ⟨RX9, "laysYards", "()V"⟩
abbrev cX9_see : ByteArray := prog_11_method_84_code
def yX9_see : MethodName := ⟨RX9, "see", "(IIZ)Z"⟩
abbrev cX9_isAsSeen : ByteArray := prog_11_method_85_code
def yX9_isAsSeen : MethodName := ⟨RX9, "isAsSeen", "(I)Z"⟩
abbrev cX9_who : ByteArray := prog_11_method_86_code
def yX9_who : MethodName := ⟨RX9, "who", "()I"⟩
abbrev cX9_ask : ByteArray := prog_11_method_87_code
def yX9_ask : MethodName := ⟨RX9, "ask", "()I"⟩
abbrev cX9_chance : ByteArray := prog_11_method_88_code
def yX9_chance : MethodName := ⟨RX9, "chance", "(III)I"⟩
abbrev cX9_getsBy : ByteArray := prog_11_method_89_code
def yX9_getsBy : MethodName := ⟨RX9, "getsBy", "(IIIII)I"⟩
abbrev cX9_rests : ByteArray := prog_11_method_90_code
def yX9_rests : MethodName := ⟨RX9, "rests", "(IIII)I"⟩
abbrev cX9_draws : ByteArray := prog_11_method_91_code
def yX9_draws : MethodName := ⟨RX9, "draws", "(I)I"⟩
abbrev cX9_livesMinute : ByteArray := prog_11_method_92_code
def yX9_livesMinute : MethodName := ⟨RX9, "livesMinute", "()V"⟩
abbrev cX9_years : ByteArray := prog_11_method_93_code
def yX9_years : MethodName := ⟨RX9, "years", "(III)I"⟩
abbrev cX9_mark : ByteArray := prog_11_method_94_code
def yX9_mark : MethodName := ⟨RX9, "mark", "(IZ)Z"⟩
abbrev cX9_count : ByteArray := prog_11_method_95_code
def yX9_count : MethodName := ⟨RX9, "count", "(I)I"⟩
def RJx145de : String := "java/io/Serializable"
def TJx145de : u_T := fun k => match k with
  | _ => ("", "", "", false)
def tyJx145de : Nat → FieldType := fun k => match k with
  | _ => .int
abbrev wsJx145de0 : List Cond := u_ws RJx145de TJx145de 0
theorem nmJx145de : ∀ a, a < 0 → ∀ b, b < 0 → a ≠ b → (TJx145de a).2.1 ≠ (TJx145de b).2.1 := by decide +kernel
theorem tyJx145de_ok : ∀ k, k < 0 → parseFieldDescriptor (TJx145de k).2.2.1 = some (tyJx145de k) := by decide +kernel
def RJx9f9b0 : String := "java/lang/CharSequence"
def TJx9f9b0 : u_T := fun k => match k with
  | _ => ("", "", "", false)
def tyJx9f9b0 : Nat → FieldType := fun k => match k with
  | _ => .int
abbrev wsJx9f9b00 : List Cond := u_ws RJx9f9b0 TJx9f9b0 0
theorem nmJx9f9b0 : ∀ a, a < 0 → ∀ b, b < 0 → a ≠ b → (TJx9f9b0 a).2.1 ≠ (TJx9f9b0 b).2.1 := by decide +kernel
theorem tyJx9f9b0_ok : ∀ k, k < 0 → parseFieldDescriptor (TJx9f9b0 k).2.2.1 = some (tyJx9f9b0 k) := by decide +kernel
def RJ11 : String := "java/lang/Character"
def TJ11 : u_T := fun k => match k with
  | _ => ("", "", "", false)
def tyJ11 : Nat → FieldType := fun k => match k with
  | _ => .int
abbrev wsJ110 : List Cond := u_ws RJ11 TJ11 0
theorem nmJ11 : ∀ a, a < 0 → ∀ b, b < 0 → a ≠ b → (TJ11 a).2.1 ≠ (TJ11 b).2.1 := by decide +kernel
theorem tyJ11_ok : ∀ k, k < 0 → parseFieldDescriptor (TJ11 k).2.2.1 = some (tyJ11 k) := by decide +kernel
abbrev cJ11_isValidCodePoint_9a6ad : ByteArray := prog_14_method_11_code
def yJ11_isValidCodePoint_9a6ad : MethodName := ⟨RJ11, "isValidCodePoint", "(I)Z"⟩
abbrev cJ11_highSurrogate_5068e : ByteArray := prog_14_method_28_code
def yJ11_highSurrogate_5068e : MethodName := ⟨RJ11, "highSurrogate", "(I)C"⟩
abbrev cJ11_lowSurrogate_5068e : ByteArray := prog_14_method_29_code
def yJ11_lowSurrogate_5068e : MethodName := ⟨RJ11, "lowSurrogate", "(I)C"⟩
def RJxb160c : String := "java/lang/Comparable"
def TJxb160c : u_T := fun k => match k with
  | _ => ("", "", "", false)
def tyJxb160c : Nat → FieldType := fun k => match k with
  | _ => .int
abbrev wsJxb160c0 : List Cond := u_ws RJxb160c TJxb160c 0
theorem nmJxb160c : ∀ a, a < 0 → ∀ b, b < 0 → a ≠ b → (TJxb160c a).2.1 ≠ (TJxb160c b).2.1 := by decide +kernel
theorem tyJxb160c_ok : ∀ k, k < 0 → parseFieldDescriptor (TJxb160c k).2.2.1 = some (tyJxb160c k) := by decide +kernel
def RJ6 : String := "java/lang/Integer"
def TJ6 : u_T := fun k => match k with
  | _ => ("", "", "", false)
def tyJ6 : Nat → FieldType := fun k => match k with
  | _ => .int
abbrev wsJ60 : List Cond := u_ws RJ6 TJ6 0
theorem nmJ6 : ∀ a, a < 0 → ∀ b, b < 0 → a ≠ b → (TJ6 a).2.1 ≠ (TJ6 b).2.1 := by decide +kernel
theorem tyJ6_ok : ∀ k, k < 0 → parseFieldDescriptor (TJ6 k).2.2.1 = some (tyJ6 k) := by decide +kernel
abbrev cJ6_bitCount_0f7a4 : ByteArray := prog_17_method_49_code
def yJ6_bitCount_0f7a4 : MethodName := ⟨RJ6, "bitCount", "(I)I"⟩
def RJ9 : String := "java/lang/Math"
def TJ9 : u_T := fun k => match k with
  | _ => ("", "", "", false)
def tyJ9 : Nat → FieldType := fun k => match k with
  | _ => .int
abbrev wsJ90 : List Cond := u_ws RJ9 TJ9 0
theorem nmJ9 : ∀ a, a < 0 → ∀ b, b < 0 → a ≠ b → (TJ9 a).2.1 ≠ (TJ9 b).2.1 := by decide +kernel
theorem tyJ9_ok : ∀ k, k < 0 → parseFieldDescriptor (TJ9 k).2.2.1 = some (tyJ9 k) := by decide +kernel
abbrev cJ9_max_7cf53 : ByteArray := prog_18_method_65_code
def yJ9_max_7cf53 : MethodName := ⟨RJ9, "max", "(II)I"⟩
abbrev cJ9_min_7cf53 : ByteArray := prog_18_method_69_code
def yJ9_min_7cf53 : MethodName := ⟨RJ9, "min", "(II)I"⟩
def RJ0 : String := "java/lang/String"
def TJ0 : u_T := fun k => match k with
  | _ => ("", "", "", false)
def tyJ0 : Nat → FieldType := fun k => match k with
  | _ => .int
abbrev wsJ00 : List Cond := u_ws RJ0 TJ0 0
theorem nmJ0 : ∀ a, a < 0 → ∀ b, b < 0 → a ≠ b → (TJ0 a).2.1 ≠ (TJ0 b).2.1 := by decide +kernel
theorem tyJ0_ok : ∀ k, k < 0 → parseFieldDescriptor (TJ0 k).2.2.1 = some (tyJ0 k) := by decide +kernel
abbrev cJ0_length_8abf5 : ByteArray := prog_20_method_54_code
def yJ0_length_8abf5 : MethodName := ⟨RJ0, "length", "()I"⟩
abbrev cJ0_charAt_5068e : ByteArray := prog_20_method_56_code
def yJ0_charAt_5068e : MethodName := ⟨RJ0, "charAt", "(I)C"⟩
abbrev cJ0_indexOf_0f7a4 : ByteArray := prog_20_method_79_code
def yJ0_indexOf_0f7a4 : MethodName := ⟨RJ0, "indexOf", "(I)I"⟩
abbrev cJ0_indexOf_7cf53 : ByteArray := prog_20_method_80_code
def yJ0_indexOf_7cf53 : MethodName := ⟨RJ0, "indexOf", "(II)I"⟩
abbrev cJ0_coder_7d493 : ByteArray := prog_20_method_152_code
def yJ0_coder_7d493 : MethodName := ⟨RJ0, "coder", "()B"⟩
abbrev cJ0_isLatin1_aae02 : ByteArray := prog_20_method_154_code
def yJ0_isLatin1_aae02 : MethodName := ⟨RJ0, "isLatin1", "()Z"⟩
abbrev cJ0_checkIndex_df160 : ByteArray := prog_20_method_155_code
def yJ0_checkIndex_df160 : MethodName := ⟨RJ0, "checkIndex", "(II)V"⟩
abbrev cJ0_checkBoundsBeginEnd_23922 : ByteArray := prog_20_method_158_code
def yJ0_checkBoundsBeginEnd_23922 : MethodName := ⟨RJ0, "checkBoundsBeginEnd", "(III)V"⟩
def RJ1 : String := "java/lang/StringLatin1"
def TJ1 : u_T := fun k => match k with
  | _ => ("", "", "", false)
def tyJ1 : Nat → FieldType := fun k => match k with
  | _ => .int
abbrev wsJ10 : List Cond := u_ws RJ1 TJ1 0
theorem nmJ1 : ∀ a, a < 0 → ∀ b, b < 0 → a ≠ b → (TJ1 a).2.1 ≠ (TJ1 b).2.1 := by decide +kernel
theorem tyJ1_ok : ∀ k, k < 0 → parseFieldDescriptor (TJ1 k).2.2.1 = some (tyJ1 k) := by decide +kernel
abbrev cJ1_charAt_3b067 : ByteArray := prog_21_method_2_code
def yJ1_charAt_3b067 : MethodName := ⟨RJ1, "charAt", "([BI)C"⟩
abbrev cJ1_canEncode_9a6ad : ByteArray := prog_21_method_4_code
def yJ1_canEncode_9a6ad : MethodName := ⟨RJ1, "canEncode", "(I)Z"⟩
abbrev cJ1_indexOf_4cfef : ByteArray := prog_21_method_22_code
def yJ1_indexOf_4cfef : MethodName := ⟨RJ1, "indexOf", "([BIII)I"⟩
abbrev cJ1_indexOfChar_4cfef : ByteArray := prog_21_method_23_code
def yJ1_indexOfChar_4cfef : MethodName := ⟨RJ1, "indexOfChar", "([BIII)I"⟩
def RJ2 : String := "java/lang/StringUTF16"
def TJ2 : u_T := fun k => match k with
  | _ => ("", "", "", false)
def tyJ2 : Nat → FieldType := fun k => match k with
  | _ => .int
abbrev wsJ20 : List Cond := u_ws RJ2 TJ2 0
theorem nmJ2 : ∀ a, a < 0 → ∀ b, b < 0 → a ≠ b → (TJ2 a).2.1 ≠ (TJ2 b).2.1 := by decide +kernel
theorem tyJ2_ok : ∀ k, k < 0 → parseFieldDescriptor (TJ2 k).2.2.1 = some (tyJ2 k) := by decide +kernel
abbrev cJ2_getChar_3b067 : ByteArray := prog_22_method_5_code
def yJ2_getChar_3b067 : MethodName := ⟨RJ2, "getChar", "([BI)C"⟩
abbrev cJ2_length_9d52b : ByteArray := prog_22_method_6_code
def yJ2_length_9d52b : MethodName := ⟨RJ2, "length", "([B)I"⟩
abbrev cJ2_indexOf_4cfef : ByteArray := prog_22_method_40_code
def yJ2_indexOf_4cfef : MethodName := ⟨RJ2, "indexOf", "([BIII)I"⟩
abbrev cJ2_indexOfChar_4cfef : ByteArray := prog_22_method_47_code
def yJ2_indexOfChar_4cfef : MethodName := ⟨RJ2, "indexOfChar", "([BIII)I"⟩
abbrev cJ2_indexOfCharUnsafe_4cfef : ByteArray := prog_22_method_48_code
def yJ2_indexOfCharUnsafe_4cfef : MethodName := ⟨RJ2, "indexOfCharUnsafe", "([BIII)I"⟩
abbrev cJ2_indexOfSupplementary_4cfef : ByteArray := prog_22_method_49_code
def yJ2_indexOfSupplementary_4cfef : MethodName := ⟨RJ2, "indexOfSupplementary", "([BIII)I"⟩
abbrev cJ2_charAt_3b067 : ByteArray := prog_22_method_83_code
def yJ2_charAt_3b067 : MethodName := ⟨RJ2, "charAt", "([BI)C"⟩
abbrev cJ2_checkIndex_2214a : ByteArray := prog_22_method_91_code
def yJ2_checkIndex_2214a : MethodName := ⟨RJ2, "checkIndex", "(I[B)V"⟩
abbrev cJ2_checkBoundsBeginEnd_d044e : ByteArray := prog_22_method_93_code
def yJ2_checkBoundsBeginEnd_d044e : MethodName := ⟨RJ2, "checkBoundsBeginEnd", "(II[B)V"⟩
def RJ10 : String := "java/lang/System"
def TJ10 : u_T := fun k => match k with
  | _ => ("", "", "", false)
def tyJ10 : Nat → FieldType := fun k => match k with
  | _ => .int
abbrev wsJ100 : List Cond := u_ws RJ10 TJ10 0
theorem nmJ10 : ∀ a, a < 0 → ∀ b, b < 0 → a ≠ b → (TJ10 a).2.1 ≠ (TJ10 b).2.1 := by decide +kernel
theorem tyJ10_ok : ∀ k, k < 0 → parseFieldDescriptor (TJ10 k).2.2.1 = some (tyJ10 k) := by decide +kernel
def RJxfd54e : String := "java/lang/constant/Constable"
def TJxfd54e : u_T := fun k => match k with
  | _ => ("", "", "", false)
def tyJxfd54e : Nat → FieldType := fun k => match k with
  | _ => .int
abbrev wsJxfd54e0 : List Cond := u_ws RJxfd54e TJxfd54e 0
theorem nmJxfd54e : ∀ a, a < 0 → ∀ b, b < 0 → a ≠ b → (TJxfd54e a).2.1 ≠ (TJxfd54e b).2.1 := by decide +kernel
theorem tyJxfd54e_ok : ∀ k, k < 0 → parseFieldDescriptor (TJxfd54e k).2.2.1 = some (tyJxfd54e k) := by decide +kernel
def RJx3cf43 : String := "java/lang/constant/ConstantDesc"
def TJx3cf43 : u_T := fun k => match k with
  | _ => ("", "", "", false)
def tyJx3cf43 : Nat → FieldType := fun k => match k with
  | _ => .int
abbrev wsJx3cf430 : List Cond := u_ws RJx3cf43 TJx3cf43 0
theorem nmJx3cf43 : ∀ a, a < 0 → ∀ b, b < 0 → a ≠ b → (TJx3cf43 a).2.1 ≠ (TJx3cf43 b).2.1 := by decide +kernel
theorem tyJx3cf43_ok : ∀ k, k < 0 → parseFieldDescriptor (TJx3cf43 k).2.2.1 = some (tyJx3cf43 k) := by decide +kernel
def RJ3 : String := "jdk/internal/util/Preconditions"
def TJ3 : u_T := fun k => match k with
  | _ => ("", "", "", false)
def tyJ3 : Nat → FieldType := fun k => match k with
  | _ => .int
abbrev wsJ30 : List Cond := u_ws RJ3 TJ3 0
theorem nmJ3 : ∀ a, a < 0 → ∀ b, b < 0 → a ≠ b → (TJ3 a).2.1 ≠ (TJ3 b).2.1 := by decide +kernel
theorem tyJ3_ok : ∀ k, k < 0 → parseFieldDescriptor (TJ3 k).2.2.1 = some (tyJ3 k) := by decide +kernel
abbrev cJ3_checkIndex_8e157 : ByteArray := prog_28_method_11_code
def yJ3_checkIndex_8e157 : MethodName := ⟨RJ3, "checkIndex", "(IILjava/util/function/BiFunction;)I"⟩
abbrev cJ3_checkFromToIndex_8c36e : ByteArray := prog_28_method_12_code
def yJ3_checkFromToIndex_8c36e : MethodName := ⟨RJ3, "checkFromToIndex", "(IIILjava/util/function/BiFunction;)I"⟩
def RL : String := "LastCookLaw"
abbrev cL_rests : ByteArray := method_3_code
def yL_rests : MethodName := ⟨RL, "rests", "(LLastCook;IIII[J)I"⟩
abbrev cL_law : ByteArray := code
def yL_law : MethodName := ⟨RL, "law", "([I)Z"⟩
noncomputable abbrev ww_0 : Cond := .methodLink RX0 1 objectInit
noncomputable abbrev ww_1 : Cond := .instanceMethod objectInit
noncomputable abbrev ww_2 : Cond := .code objectInit ⟨#[0xb1]⟩ 1 none
noncomputable abbrev ww_3 : Cond := .arrayClass .int
noncomputable abbrev ww_4 : Cond := .fieldLink RX0 9 "LastCook$Law" "code" "[I"
noncomputable abbrev ww_5 : Cond := .fieldLink RX0 15 "LastCook$Law" "stack" "[I"
noncomputable abbrev ww_6 : Cond := .fieldLink RX0 18 "LastCook$Law" "facts" "[I"
noncomputable abbrev ww_7 : Cond := .fieldLink RX0 21 "LastCook$Law" "length" "I"
noncomputable abbrev ww_8 : Cond := .fieldLink RX6 53 "LastCook$Tape" "place" "I"
noncomputable abbrev ww_9 : Cond := .fieldLink RX6 47 "LastCook$Tape" "fault" "I"
noncomputable abbrev ww_10 : Cond := .constantLong RX6 81 (32)
noncomputable abbrev ww_11 : Cond := .fieldLink RX6 77 "LastCook$Tape" "letters" "J"
noncomputable abbrev ww_12 : Cond := .fieldLink RX6 44 "LastCook$Tape" "next" "I"
noncomputable abbrev ww_13 : Cond := .fieldLink RX6 41 "LastCook$Tape" "length" "I"
noncomputable abbrev ww_14 : Cond := .fieldLink RX6 11 "LastCook$Tape" "signs" "[B"
noncomputable abbrev ww_15 : Cond := .fieldLink RX6 59 "LastCook$Tape" "kind" "I"
noncomputable abbrev ww_16 : Cond := .fieldLink RX6 15 "LastCook$Tape" "words" "[J"
noncomputable abbrev ww_17 : Cond := .fieldLink RX6 56 "LastCook$Tape" "value" "I"
noncomputable abbrev ww_18 : Cond := .methodLink RX6 31 yX6_isLetter
noncomputable abbrev ww_19 : Cond := .static yX6_isLetter
noncomputable abbrev ww_20 : Cond := .initialized RX6
noncomputable abbrev ww_21 : Cond := .code yX6_isLetter cX6_isLetter 1 (some .boolean)
noncomputable abbrev ww_22 : Cond := .methodLink RX6 35 yX6_withLetter
noncomputable abbrev ww_23 : Cond := .static yX6_withLetter
noncomputable abbrev ww_24 : Cond := .code yX6_withLetter cX6_withLetter 3 (some .long)
noncomputable abbrev ww_25 : Cond := .methodLink RX6 65 yX6_isDigit
noncomputable abbrev ww_26 : Cond := .static yX6_isDigit
noncomputable abbrev ww_27 : Cond := .code yX6_isDigit cX6_isDigit 1 (some .boolean)
noncomputable abbrev ww_28 : Cond := .fieldLink RJ0 38 "java/lang/String" "COMPACT_STRINGS" "Z"
noncomputable abbrev ww_29 : Cond := .fieldLink RJ0 15 "java/lang/String" "coder" "B"
noncomputable abbrev ww_30 : Cond := .fieldLink RJ0 9 "java/lang/String" "value" "[B"
noncomputable abbrev ww_31 : Cond := .methodLink RJ0 335 yJ0_coder_7d493
noncomputable abbrev ww_32 : Cond := .instanceMethod yJ0_coder_7d493
noncomputable abbrev ww_33 : Cond := .selects RJ0 yJ0_coder_7d493 yJ0_coder_7d493
noncomputable abbrev ww_34 : Cond := .initialized RJ0
noncomputable abbrev ww_35 : Cond := .code yJ0_coder_7d493 cJ0_coder_7d493 1 (some .byte)
noncomputable abbrev ww_36 : Cond := .methodLink RJ1 92 Lib.Math.max.name
noncomputable abbrev ww_37 : Cond := .static Lib.Math.max.name
noncomputable abbrev ww_38 : Cond := .initialized "java/lang/Math"
noncomputable abbrev ww_39 : Cond := .code Lib.Math.max.name Lib.Math.max.code 2 (some .int)
noncomputable abbrev ww_40 : Cond := .methodLink RJ1 38 Lib.Math.min.name
noncomputable abbrev ww_41 : Cond := .static Lib.Math.min.name
noncomputable abbrev ww_42 : Cond := .code Lib.Math.min.name Lib.Math.min.code 2 (some .int)
noncomputable abbrev ww_43 : Cond := .methodLink RJ1 88 yJ1_canEncode_9a6ad
noncomputable abbrev ww_44 : Cond := .static yJ1_canEncode_9a6ad
noncomputable abbrev ww_45 : Cond := .initialized RJ1
noncomputable abbrev ww_46 : Cond := .code yJ1_canEncode_9a6ad cJ1_canEncode_9a6ad 1 (some .boolean)
noncomputable abbrev ww_47 : Cond := .methodLink RJ1 95 yJ1_indexOfChar_4cfef
noncomputable abbrev ww_48 : Cond := .static yJ1_indexOfChar_4cfef
noncomputable abbrev ww_49 : Cond := .code yJ1_indexOfChar_4cfef cJ1_indexOfChar_4cfef 6 (some .int)
noncomputable abbrev ww_50 : Cond := .fieldLink RJ0 1053 "jdk/internal/util/Preconditions" "SIOOBE_FORMATTER" "Ljava/util/function/BiFunction;"
noncomputable abbrev ww_51 : Cond := .methodLink RJ0 1062 yJ3_checkFromToIndex_8c36e
noncomputable abbrev ww_52 : Cond := .static yJ3_checkFromToIndex_8c36e
noncomputable abbrev ww_53 : Cond := .initialized RJ3
noncomputable abbrev ww_54 : Cond := .code yJ3_checkFromToIndex_8c36e cJ3_checkFromToIndex_8c36e 4 (some .int)
noncomputable abbrev ww_55 : Cond := .methodLink RJ2 48 yJ2_length_9d52b
noncomputable abbrev ww_56 : Cond := .static yJ2_length_9d52b
noncomputable abbrev ww_57 : Cond := .initialized RJ2
noncomputable abbrev ww_58 : Cond := .code yJ2_length_9d52b cJ2_length_9d52b 1 (some .int)
noncomputable abbrev ww_59 : Cond := .methodLink RJ2 241 yJ0_checkBoundsBeginEnd_23922
noncomputable abbrev ww_60 : Cond := .static yJ0_checkBoundsBeginEnd_23922
noncomputable abbrev ww_61 : Cond := .code yJ0_checkBoundsBeginEnd_23922 cJ0_checkBoundsBeginEnd_23922 3 none
noncomputable abbrev ww_62 : Cond := .fieldLink RJ2 44 "java/lang/StringUTF16" "$assertionsDisabled" "Z"
noncomputable abbrev ww_63 : Cond := .fieldLink RJ2 59 "java/lang/StringUTF16" "HI_BYTE_SHIFT" "I"
noncomputable abbrev ww_64 : Cond := .fieldLink RJ2 63 "java/lang/StringUTF16" "LO_BYTE_SHIFT" "I"
noncomputable abbrev ww_65 : Cond := .methodLink RJ2 71 yJ2_getChar_3b067
noncomputable abbrev ww_66 : Cond := .static yJ2_getChar_3b067
noncomputable abbrev ww_67 : Cond := .code yJ2_getChar_3b067 cJ2_getChar_3b067 2 (some .char)
noncomputable abbrev ww_68 : Cond := .methodLink RJ2 96 yJ2_checkBoundsBeginEnd_d044e
noncomputable abbrev ww_69 : Cond := .static yJ2_checkBoundsBeginEnd_d044e
noncomputable abbrev ww_70 : Cond := .code yJ2_checkBoundsBeginEnd_d044e cJ2_checkBoundsBeginEnd_d044e 3 none
noncomputable abbrev ww_71 : Cond := .methodLink RJ2 244 yJ2_indexOfCharUnsafe_4cfef
noncomputable abbrev ww_72 : Cond := .static yJ2_indexOfCharUnsafe_4cfef
noncomputable abbrev ww_73 : Cond := .code yJ2_indexOfCharUnsafe_4cfef cJ2_indexOfCharUnsafe_4cfef 5 (some .int)
noncomputable abbrev ww_74 : Cond := .constant RJ11 110 (55232)
noncomputable abbrev ww_75 : Cond := .constant RJ11 76 (56320)
noncomputable abbrev ww_76 : Cond := .methodLink RJ2 164 yJ11_isValidCodePoint_9a6ad
noncomputable abbrev ww_77 : Cond := .static yJ11_isValidCodePoint_9a6ad
noncomputable abbrev ww_78 : Cond := .initialized RJ11
noncomputable abbrev ww_79 : Cond := .code yJ11_isValidCodePoint_9a6ad cJ11_isValidCodePoint_9a6ad 2 (some .boolean)
noncomputable abbrev ww_80 : Cond := .methodLink RJ2 157 yJ11_highSurrogate_5068e
noncomputable abbrev ww_81 : Cond := .static yJ11_highSurrogate_5068e
noncomputable abbrev ww_82 : Cond := .code yJ11_highSurrogate_5068e cJ11_highSurrogate_5068e 1 (some .char)
noncomputable abbrev ww_83 : Cond := .methodLink RJ2 161 yJ11_lowSurrogate_5068e
noncomputable abbrev ww_84 : Cond := .static yJ11_lowSurrogate_5068e
noncomputable abbrev ww_85 : Cond := .code yJ11_lowSurrogate_5068e cJ11_lowSurrogate_5068e 1 (some .char)
noncomputable abbrev ww_86 : Cond := .methodLink RJ2 224 Lib.Math.max.name
noncomputable abbrev ww_87 : Cond := .methodLink RJ2 183 Lib.Math.min.name
noncomputable abbrev ww_88 : Cond := .constant RJ2 227 (65536)
noncomputable abbrev ww_89 : Cond := .methodLink RJ2 228 yJ2_indexOfChar_4cfef
noncomputable abbrev ww_90 : Cond := .static yJ2_indexOfChar_4cfef
noncomputable abbrev ww_91 : Cond := .code yJ2_indexOfChar_4cfef cJ2_indexOfChar_4cfef 4 (some .int)
noncomputable abbrev ww_92 : Cond := .methodLink RJ2 232 yJ2_indexOfSupplementary_4cfef
noncomputable abbrev ww_93 : Cond := .static yJ2_indexOfSupplementary_4cfef
noncomputable abbrev ww_94 : Cond := .code yJ2_indexOfSupplementary_4cfef cJ2_indexOfSupplementary_4cfef 7 (some .int)
noncomputable abbrev ww_95 : Cond := .methodLink RJ0 492 yJ0_isLatin1_aae02
noncomputable abbrev ww_96 : Cond := .instanceMethod yJ0_isLatin1_aae02
noncomputable abbrev ww_97 : Cond := .selects RJ0 yJ0_isLatin1_aae02 yJ0_isLatin1_aae02
noncomputable abbrev ww_98 : Cond := .code yJ0_isLatin1_aae02 cJ0_isLatin1_aae02 1 (some .boolean)
noncomputable abbrev ww_99 : Cond := .methodLink RJ0 505 yJ0_length_8abf5
noncomputable abbrev ww_100 : Cond := .instanceMethod yJ0_length_8abf5
noncomputable abbrev ww_101 : Cond := .selects RJ0 yJ0_length_8abf5 yJ0_length_8abf5
noncomputable abbrev ww_102 : Cond := .code yJ0_length_8abf5 cJ0_length_8abf5 1 (some .int)
noncomputable abbrev ww_103 : Cond := .methodLink RJ0 637 yJ1_indexOf_4cfef
noncomputable abbrev ww_104 : Cond := .static yJ1_indexOf_4cfef
noncomputable abbrev ww_105 : Cond := .code yJ1_indexOf_4cfef cJ1_indexOf_4cfef 4 (some .int)
noncomputable abbrev ww_106 : Cond := .methodLink RJ0 640 yJ2_indexOf_4cfef
noncomputable abbrev ww_107 : Cond := .static yJ2_indexOf_4cfef
noncomputable abbrev ww_108 : Cond := .code yJ2_indexOf_4cfef cJ2_indexOf_4cfef 4 (some .int)
noncomputable abbrev ww_109 : Cond := .methodLink RJ0 633 yJ0_indexOf_7cf53
noncomputable abbrev ww_110 : Cond := .instanceMethod yJ0_indexOf_7cf53
noncomputable abbrev ww_111 : Cond := .selects RJ0 yJ0_indexOf_7cf53 yJ0_indexOf_7cf53
noncomputable abbrev ww_112 : Cond := .code yJ0_indexOf_7cf53 cJ0_indexOf_7cf53 3 (some .int)
noncomputable abbrev ww_113 : Cond := .methodLink RX6 62 yX6_readWord
noncomputable abbrev ww_114 : Cond := .instanceMethod yX6_readWord
noncomputable abbrev ww_115 : Cond := .selects RX6 yX6_readWord yX6_readWord
noncomputable abbrev ww_116 : Cond := .code yX6_readWord cX6_readWord 2 none
noncomputable abbrev ww_117 : Cond := .methodLink RX6 68 yX6_readNumber
noncomputable abbrev ww_118 : Cond := .instanceMethod yX6_readNumber
noncomputable abbrev ww_119 : Cond := .selects RX6 yX6_readNumber yX6_readNumber
noncomputable abbrev ww_120 : Cond := .code yX6_readNumber cX6_readNumber 1 none
noncomputable abbrev ww_121 : Cond := .methodLink RX6 73 yJ0_indexOf_0f7a4
noncomputable abbrev ww_122 : Cond := .instanceMethod yJ0_indexOf_0f7a4
noncomputable abbrev ww_123 : Cond := .selects RJ0 yJ0_indexOf_0f7a4 yJ0_indexOf_0f7a4
noncomputable abbrev ww_124 : Cond := .code yJ0_indexOf_0f7a4 cJ0_indexOf_0f7a4 2 (some .int)
noncomputable abbrev ww_125 : Cond := .methodLink RX0 25 yX6_wrong
noncomputable abbrev ww_126 : Cond := .instanceMethod yX6_wrong
noncomputable abbrev ww_127 : Cond := .selects RX6 yX6_wrong yX6_wrong
noncomputable abbrev ww_128 : Cond := .code yX6_wrong cX6_wrong 2 (some .boolean)
noncomputable abbrev ww_129 : Cond := .methodLink RX0 29 yX6_advance
noncomputable abbrev ww_130 : Cond := .instanceMethod yX6_advance
noncomputable abbrev ww_131 : Cond := .selects RX6 yX6_advance yX6_advance
noncomputable abbrev ww_132 : Cond := .code yX6_advance cX6_advance 1 none
noncomputable abbrev ww_133 : Cond := .methodLink RX0 60 yX6_isWord
noncomputable abbrev ww_134 : Cond := .instanceMethod yX6_isWord
noncomputable abbrev ww_135 : Cond := .selects RX6 yX6_isWord yX6_isWord
noncomputable abbrev ww_136 : Cond := .code yX6_isWord cX6_isWord 2 (some .boolean)
noncomputable abbrev ww_137 : Cond := .methodLink RX0 63 yX6_isSign
noncomputable abbrev ww_138 : Cond := .instanceMethod yX6_isSign
noncomputable abbrev ww_139 : Cond := .selects RX6 yX6_isSign yX6_isSign
noncomputable abbrev ww_140 : Cond := .code yX6_isSign cX6_isSign 2 (some .boolean)
noncomputable abbrev ww_141 : Cond := .methodLink RX6 83 yX6_isSign
noncomputable abbrev ww_142 : Cond := .methodLink RX6 87 yX6_wrong
noncomputable abbrev ww_143 : Cond := .methodLink RX6 50 yX6_advance
noncomputable abbrev ww_144 : Cond := .methodLink RX0 32 yX0_readPart
noncomputable abbrev ww_145 : Cond := .instanceMethod yX0_readPart
noncomputable abbrev ww_146 : Cond := .selects RX0 yX0_readPart yX0_readPart
noncomputable abbrev ww_147 : Cond := .initialized RX0
noncomputable abbrev ww_148 : Cond := .methodLink RX0 36 yX0_operatorAt
noncomputable abbrev ww_149 : Cond := .static yX0_operatorAt
noncomputable abbrev ww_150 : Cond := .code yX0_operatorAt cX0_operatorAt 1 (some .int)
noncomputable abbrev ww_151 : Cond := .methodLink RX0 40 yX0_tightnessOf
noncomputable abbrev ww_152 : Cond := .static yX0_tightnessOf
noncomputable abbrev ww_153 : Cond := .code yX0_tightnessOf cX0_tightnessOf 1 (some .int)
noncomputable abbrev ww_154 : Cond := .methodLink RX0 44 yX0_readOver
noncomputable abbrev ww_155 : Cond := .instanceMethod yX0_readOver
noncomputable abbrev ww_156 : Cond := .selects RX0 yX0_readOver yX0_readOver
noncomputable abbrev ww_157 : Cond := .methodLink RX0 48 yX0_write
noncomputable abbrev ww_158 : Cond := .instanceMethod yX0_write
noncomputable abbrev ww_159 : Cond := .selects RX0 yX0_write yX0_write
noncomputable abbrev ww_160 : Cond := .code yX0_write cX0_write 2 none
noncomputable abbrev ww_161 : Cond := .code yX0_readPart cX0_readPart 6 (some .boolean)
noncomputable abbrev ww_162 : Cond := .fieldLink RX0 67 "LastCook$Tape" "value" "I"
noncomputable abbrev ww_163 : Cond := .methodLink RX0 52 yX6_isNumber
noncomputable abbrev ww_164 : Cond := .instanceMethod yX6_isNumber
noncomputable abbrev ww_165 : Cond := .selects RX6 yX6_isNumber yX6_isNumber
noncomputable abbrev ww_166 : Cond := .code yX6_isNumber cX6_isNumber 1 (some .boolean)
noncomputable abbrev ww_167 : Cond := .methodLink RX0 56 yX6_wordHere
noncomputable abbrev ww_168 : Cond := .instanceMethod yX6_wordHere
noncomputable abbrev ww_169 : Cond := .selects RX6 yX6_wordHere yX6_wordHere
noncomputable abbrev ww_170 : Cond := .code yX6_wordHere cX6_wordHere 1 (some .int)
noncomputable abbrev ww_171 : Cond := .methodLink RX0 70 yX6_takeSign
noncomputable abbrev ww_172 : Cond := .instanceMethod yX6_takeSign
noncomputable abbrev ww_173 : Cond := .selects RX6 yX6_takeSign yX6_takeSign
noncomputable abbrev ww_174 : Cond := .code yX6_takeSign cX6_takeSign 2 (some .boolean)
noncomputable abbrev ww_175 : Cond := .code yX0_readOver cX0_readOver 8 (some .boolean)
noncomputable abbrev ww_176 : Cond := .fieldLink RX0 73 "LastCook$Law" "top" "I"
noncomputable abbrev ww_177 : Cond := .methodLink RX0 88 yX0_push
noncomputable abbrev ww_178 : Cond := .instanceMethod yX0_push
noncomputable abbrev ww_179 : Cond := .selects RX0 yX0_push yX0_push
noncomputable abbrev ww_180 : Cond := .code yX0_push cX0_push 2 none
noncomputable abbrev ww_181 : Cond := .methodLink RX0 91 yX0_join
noncomputable abbrev ww_182 : Cond := .static yX0_join
noncomputable abbrev ww_183 : Cond := .code yX0_join cX0_join 3 (some .int)
noncomputable abbrev ww_184 : Cond := .methodLink RX0 79 Lib.Math.min.name
noncomputable abbrev ww_185 : Cond := .methodLink RX0 85 Lib.Math.max.name
noncomputable abbrev ww_186 : Cond := .methodLink RX0 76 yX0_work
noncomputable abbrev ww_187 : Cond := .instanceMethod yX0_work
noncomputable abbrev ww_188 : Cond := .selects RX0 yX0_work yX0_work
noncomputable abbrev ww_189 : Cond := .code yX0_work cX0_work 2 none
noncomputable abbrev ww_190 : Cond := .methodLink RX1 3 objectInit
noncomputable abbrev ww_191 : Cond := .fieldLink RX1 11 "LastCook$Lines" "deeds" "[I"
noncomputable abbrev ww_192 : Cond := .fieldLink RX1 15 "LastCook$Lines" "guests" "[I"
noncomputable abbrev ww_193 : Cond := .fieldLink RX1 18 "LastCook$Lines" "wholes" "[I"
noncomputable abbrev ww_194 : Cond := .fieldLink RX1 21 "LastCook$Lines" "size" "I"
noncomputable abbrev ww_195 : Cond := .methodLink RX1 25 arraycopyName
noncomputable abbrev ww_196 : Cond := .native arraycopyName
noncomputable abbrev ww_197 : Cond := .static arraycopyName
noncomputable abbrev ww_198 : Cond := .initialized "java/lang/System"
noncomputable abbrev ww_199 : Cond := .fieldLink RX7 48 "LastCook$Told" "guests" "I"
noncomputable abbrev ww_200 : Cond := .fieldLink RX7 9 "LastCook$Told" "names" "[J"
noncomputable abbrev ww_201 : Cond := .fieldLink RX1 74 "LastCook$Tape" "letters" "J"
noncomputable abbrev ww_202 : Cond := .methodLink RX1 71 yX6_isName
noncomputable abbrev ww_203 : Cond := .instanceMethod yX6_isName
noncomputable abbrev ww_204 : Cond := .selects RX6 yX6_isName yX6_isName
noncomputable abbrev ww_205 : Cond := .code yX6_isName cX6_isName 1 (some .boolean)
noncomputable abbrev ww_206 : Cond := .methodLink RX1 78 yX7_numberOf
noncomputable abbrev ww_207 : Cond := .instanceMethod yX7_numberOf
noncomputable abbrev ww_208 : Cond := .selects RX7 yX7_numberOf yX7_numberOf
noncomputable abbrev ww_209 : Cond := .initialized RX7
noncomputable abbrev ww_210 : Cond := .code yX7_numberOf cX7_numberOf 4 (some .int)
noncomputable abbrev ww_211 : Cond := .methodLink RX1 52 yX6_wrong
noncomputable abbrev ww_212 : Cond := .methodLink RX1 59 yX1_readName
noncomputable abbrev ww_213 : Cond := .static yX1_readName
noncomputable abbrev ww_214 : Cond := .initialized RX1
noncomputable abbrev ww_215 : Cond := .code yX1_readName cX1_readName 3 (some .int)
noncomputable abbrev ww_216 : Cond := .methodLink RX1 56 yX6_advance
noncomputable abbrev ww_217 : Cond := .static yX8_isWithin
noncomputable abbrev ww_218 : Cond := .initialized RX8
noncomputable abbrev ww_219 : Cond := .code yX8_isWithin cX8_isWithin 3 (some .boolean)
noncomputable abbrev ww_220 : Cond := .methodLink RX6 97 yX6_checkNumber
noncomputable abbrev ww_221 : Cond := .instanceMethod yX6_checkNumber
noncomputable abbrev ww_222 : Cond := .selects RX6 yX6_checkNumber yX6_checkNumber
noncomputable abbrev ww_223 : Cond := .code yX6_checkNumber cX6_checkNumber 3 (some .boolean)
noncomputable abbrev ww_224 : Cond := .methodLink RX1 48 yX6_wordHere
noncomputable abbrev ww_225 : Cond := .methodLink RX1 63 yX1_readHired
noncomputable abbrev ww_226 : Cond := .instanceMethod yX1_readHired
noncomputable abbrev ww_227 : Cond := .selects RX1 yX1_readHired yX1_readHired
noncomputable abbrev ww_228 : Cond := .code yX1_readHired cX1_readHired 4 (some .boolean)
noncomputable abbrev ww_229 : Cond := .methodLink RX1 67 yX6_takeNumber
noncomputable abbrev ww_230 : Cond := .instanceMethod yX6_takeNumber
noncomputable abbrev ww_231 : Cond := .selects RX6 yX6_takeNumber yX6_takeNumber
noncomputable abbrev ww_232 : Cond := .code yX6_takeNumber cX6_takeNumber 4 (some .int)
noncomputable abbrev ww_233 : Cond := .methodLink RX1 31 yX1_clear
noncomputable abbrev ww_234 : Cond := .instanceMethod yX1_clear
noncomputable abbrev ww_235 : Cond := .selects RX1 yX1_clear yX1_clear
noncomputable abbrev ww_236 : Cond := .code yX1_clear cX1_clear 1 none
noncomputable abbrev ww_237 : Cond := .methodLink RX1 36 yX6_isAtEnd
noncomputable abbrev ww_238 : Cond := .instanceMethod yX6_isAtEnd
noncomputable abbrev ww_239 : Cond := .selects RX6 yX6_isAtEnd yX6_isAtEnd
noncomputable abbrev ww_240 : Cond := .code yX6_isAtEnd cX6_isAtEnd 1 (some .boolean)
noncomputable abbrev ww_241 : Cond := .methodLink RX1 40 yX1_readLine
noncomputable abbrev ww_242 : Cond := .instanceMethod yX1_readLine
noncomputable abbrev ww_243 : Cond := .selects RX1 yX1_readLine yX1_readLine
noncomputable abbrev ww_244 : Cond := .code yX1_readLine cX1_readLine 5 (some .boolean)
noncomputable abbrev ww_245 : Cond := .methodLink RX1 44 yX6_takeSign
noncomputable abbrev ww_246 : Cond := .fieldLink RX4 9 "LastCook$Road" "yards" "[I"
noncomputable abbrev ww_247 : Cond := .fieldLink RX4 18 "LastCook$Road" "stuck" "[I"
noncomputable abbrev ww_248 : Cond := .methodLink RX4 70 Lib.Math.min.name
noncomputable abbrev ww_249 : Cond := .methodLink RX4 66 yX4_isOnRoad
noncomputable abbrev ww_250 : Cond := .instanceMethod yX4_isOnRoad
noncomputable abbrev ww_251 : Cond := .selects RX4 yX4_isOnRoad yX4_isOnRoad
noncomputable abbrev ww_252 : Cond := .initialized RX4
noncomputable abbrev ww_253 : Cond := .code yX4_isOnRoad cX4_isOnRoad 2 (some .boolean)
noncomputable abbrev ww_254 : Cond := .fieldLink RX4 15 "LastCook$Road" "paces" "[I"
noncomputable abbrev ww_255 : Cond := .fieldLink RX4 21 "LastCook$Road" "hirers" "[I"
noncomputable abbrev ww_256 : Cond := .methodLink RX4 76 yX4_canEngage
noncomputable abbrev ww_257 : Cond := .instanceMethod yX4_canEngage
noncomputable abbrev ww_258 : Cond := .selects RX4 yX4_canEngage yX4_canEngage
noncomputable abbrev ww_259 : Cond := .code yX4_canEngage cX4_canEngage 3 (some .boolean)
noncomputable abbrev ww_260 : Cond := .fieldLink RX7 51 "LastCook$Told" "snows" "I"
noncomputable abbrev ww_261 : Cond := .fieldLink RX7 28 "LastCook$Told" "snow" "[I"
noncomputable abbrev ww_262 : Cond := .fieldLink RX4 53 "LastCook$Told" "guests" "I"
noncomputable abbrev ww_263 : Cond := .fieldLink RX4 84 "LastCook$Told" "kinds" "[I"
noncomputable abbrev ww_264 : Cond := .fieldLink RX4 50 "LastCook$Road" "inside" "I"
noncomputable abbrev ww_265 : Cond := .methodLink RX4 80 yX4_isSomeoneOutWhoIsNotGreat
noncomputable abbrev ww_266 : Cond := .instanceMethod yX4_isSomeoneOutWhoIsNotGreat
noncomputable abbrev ww_267 : Cond := .selects RX4 yX4_isSomeoneOutWhoIsNotGreat yX4_isSomeoneOutWhoIsNotGreat
noncomputable abbrev ww_268 : Cond := .code yX4_isSomeoneOutWhoIsNotGreat cX4_isSomeoneOutWhoIsNotGreat 3 (some .boolean)
noncomputable abbrev ww_269 : Cond := .fieldLink RX4 91 "LastCook$Road" "stirred" "Z"
noncomputable abbrev ww_270 : Cond := .fieldLink RX4 95 "LastCook$Told" "bend" "I"
noncomputable abbrev ww_271 : Cond := .methodLink RX4 98 Lib.Math.max.name
noncomputable abbrev ww_272 : Cond := .fieldLink RX4 24 "LastCook$Road" "places" "[I"
noncomputable abbrev ww_273 : Cond := .fieldLink RX4 27 "LastCook$Road" "cameAt" "[I"
noncomputable abbrev ww_274 : Cond := .fieldLink RX4 47 "LastCook$Road" "minute" "I"
noncomputable abbrev ww_275 : Cond := .methodLink RX4 87 yX4_holdingBack
noncomputable abbrev ww_276 : Cond := .instanceMethod yX4_holdingBack
noncomputable abbrev ww_277 : Cond := .selects RX4 yX4_holdingBack yX4_holdingBack
noncomputable abbrev ww_278 : Cond := .code yX4_holdingBack cX4_holdingBack 6 (some .int)
noncomputable abbrev ww_279 : Cond := .methodLink RX4 119 yX4_atPlace
noncomputable abbrev ww_280 : Cond := .instanceMethod yX4_atPlace
noncomputable abbrev ww_281 : Cond := .selects RX4 yX4_atPlace yX4_atPlace
noncomputable abbrev ww_282 : Cond := .code yX4_atPlace cX4_atPlace 3 (some .int)
noncomputable abbrev ww_283 : Cond := .fieldLink RX4 58 "LastCook$Told" "yards" "[I"
noncomputable abbrev ww_284 : Cond := .fieldLink RX4 59 "LastCook$Told" "paces" "[I"
noncomputable abbrev ww_285 : Cond := .fieldLink RX4 122 "LastCook$Told" "hour" "I"
noncomputable abbrev ww_286 : Cond := .fieldLink RX4 40 "LastCook$Road" "tasted" "I"
noncomputable abbrev ww_287 : Cond := .fieldLink RX4 125 "LastCook$Told" "law" "LLastCook$Law;"
noncomputable abbrev ww_288 : Cond := .fieldLink RX4 129 "LastCook$Told" "skills" "[I"
noncomputable abbrev ww_289 : Cond := .fieldLink RX4 37 "LastCook$Road" "night" "I"
noncomputable abbrev ww_290 : Cond := .fieldLink RX4 30 "LastCook$Road" "cooked" "[I"
noncomputable abbrev ww_291 : Cond := .fieldLink RX4 33 "LastCook$Road" "lastCook" "I"
noncomputable abbrev ww_292 : Cond := .methodLink RX4 132 yX0_taste
noncomputable abbrev ww_293 : Cond := .instanceMethod yX0_taste
noncomputable abbrev ww_294 : Cond := .selects RX0 yX0_taste yX0_taste
noncomputable abbrev ww_295 : Cond := .code yX0_taste cX0_taste 6 (some .int)
noncomputable abbrev ww_296 : Cond := .methodLink RX4 43 yX4_beginNight
noncomputable abbrev ww_297 : Cond := .instanceMethod yX4_beginNight
noncomputable abbrev ww_298 : Cond := .selects RX4 yX4_beginNight yX4_beginNight
noncomputable abbrev ww_299 : Cond := .code yX4_beginNight cX4_beginNight 4 none
noncomputable abbrev ww_300 : Cond := .methodLink RX4 105 yX4_walk
noncomputable abbrev ww_301 : Cond := .instanceMethod yX4_walk
noncomputable abbrev ww_302 : Cond := .selects RX4 yX4_walk yX4_walk
noncomputable abbrev ww_303 : Cond := .code yX4_walk cX4_walk 8 none
noncomputable abbrev ww_304 : Cond := .methodLink RX4 113 yX4_cookAtTable
noncomputable abbrev ww_305 : Cond := .instanceMethod yX4_cookAtTable
noncomputable abbrev ww_306 : Cond := .selects RX4 yX4_cookAtTable yX4_cookAtTable
noncomputable abbrev ww_307 : Cond := .code yX4_cookAtTable cX4_cookAtTable 4 (some .int)
noncomputable abbrev ww_308 : Cond := .methodLink RX4 116 yX4_eat
noncomputable abbrev ww_309 : Cond := .instanceMethod yX4_eat
noncomputable abbrev ww_310 : Cond := .selects RX4 yX4_eat yX4_eat
noncomputable abbrev ww_311 : Cond := .code yX4_eat cX4_eat 4 none
noncomputable abbrev ww_312 : Cond := .methodLink RX4 101 yX7_snowAt
noncomputable abbrev ww_313 : Cond := .instanceMethod yX7_snowAt
noncomputable abbrev ww_314 : Cond := .selects RX7 yX7_snowAt yX7_snowAt
noncomputable abbrev ww_315 : Cond := .code yX7_snowAt cX7_snowAt 2 (some .int)
noncomputable abbrev ww_316 : Cond := .methodLink RX4 109 yX4_passBySnow
noncomputable abbrev ww_317 : Cond := .instanceMethod yX4_passBySnow
noncomputable abbrev ww_318 : Cond := .selects RX4 yX4_passBySnow yX4_passBySnow
noncomputable abbrev ww_319 : Cond := .code yX4_passBySnow cX4_passBySnow 4 (some .int)
noncomputable abbrev ww_320 : Cond := .methodLink RX1 84 yX4_loseWheel
noncomputable abbrev ww_321 : Cond := .instanceMethod yX4_loseWheel
noncomputable abbrev ww_322 : Cond := .selects RX4 yX4_loseWheel yX4_loseWheel
noncomputable abbrev ww_323 : Cond := .code yX4_loseWheel cX4_loseWheel 3 (some .boolean)
noncomputable abbrev ww_324 : Cond := .methodLink RX1 90 yX4_quicken
noncomputable abbrev ww_325 : Cond := .instanceMethod yX4_quicken
noncomputable abbrev ww_326 : Cond := .selects RX4 yX4_quicken yX4_quicken
noncomputable abbrev ww_327 : Cond := .code yX4_quicken cX4_quicken 3 (some .boolean)
noncomputable abbrev ww_328 : Cond := .methodLink RX1 93 yX4_engage
noncomputable abbrev ww_329 : Cond := .instanceMethod yX4_engage
noncomputable abbrev ww_330 : Cond := .selects RX4 yX4_engage yX4_engage
noncomputable abbrev ww_331 : Cond := .code yX4_engage cX4_engage 3 (some .boolean)
noncomputable abbrev ww_332 : Cond := .methodLink RX1 96 yX4_pass
noncomputable abbrev ww_333 : Cond := .instanceMethod yX4_pass
noncomputable abbrev ww_334 : Cond := .selects RX4 yX4_pass yX4_pass
noncomputable abbrev ww_335 : Cond := .code yX4_pass cX4_pass 2 (some .int)
noncomputable abbrev ww_336 : Cond := .methodLink RX4 3 objectInit
noncomputable abbrev ww_337 : Cond := .methodLink RX5 3 objectInit
noncomputable abbrev ww_338 : Cond := .fieldLink RX5 11 "LastCook$Sights" "minutes" "[I"
noncomputable abbrev ww_339 : Cond := .fieldLink RX5 15 "LastCook$Sights" "yards" "[I"
noncomputable abbrev ww_340 : Cond := .arrayClass .boolean
noncomputable abbrev ww_341 : Cond := .fieldLink RX5 18 "LastCook$Sights" "near" "[Z"
noncomputable abbrev ww_342 : Cond := .methodLink RX2 1 objectInit
noncomputable abbrev ww_343 : Cond := .classLink RX2 7 RX4
noncomputable abbrev ww_344 : Cond := .instantiable RX4 13
noncomputable abbrev ww_345 : Cond := .fieldLink RX2 10 "LastCook$Mark" "road" "LLastCook$Road;"
noncomputable abbrev ww_346 : Cond := .classLink RX2 16 RX1
noncomputable abbrev ww_347 : Cond := .instantiable RX1 4
noncomputable abbrev ww_348 : Cond := .fieldLink RX2 19 "LastCook$Mark" "lines" "LLastCook$Lines;"
noncomputable abbrev ww_349 : Cond := .classLink RX2 23 RX5
noncomputable abbrev ww_350 : Cond := .instantiable RX5 4
noncomputable abbrev ww_351 : Cond := .initialized RX5
noncomputable abbrev ww_352 : Cond := .fieldLink RX2 26 "LastCook$Mark" "sights" "LLastCook$Sights;"
noncomputable abbrev ww_353 : Cond := .instanceMethod yX4_init
noncomputable abbrev ww_354 : Cond := .code yX4_init cX4_init 1 none
noncomputable abbrev ww_355 : Cond := .instanceMethod yX1_init
noncomputable abbrev ww_356 : Cond := .code yX1_init cX1_init 1 none
noncomputable abbrev ww_357 : Cond := .instanceMethod yX5_init
noncomputable abbrev ww_358 : Cond := .code yX5_init cX5_init 1 none
noncomputable abbrev ww_359 : Cond := .methodLink RX3 1 objectInit
noncomputable abbrev ww_360 : Cond := .classLink RX3 9 RX4
noncomputable abbrev ww_361 : Cond := .fieldLink RX3 11 "LastCook$Past" "kept" "[LLastCook$Road;"
noncomputable abbrev ww_362 : Cond := .fieldLink RX3 16 "LastCook$Past" "size" "I"
noncomputable abbrev ww_363 : Cond := .methodLink RX4 60 arraycopyName
noncomputable abbrev ww_364 : Cond := .fieldLink RX3 20 "LastCook$Past" "first" "I"
noncomputable abbrev ww_365 : Cond := .methodLink RX3 23 yX4_copyFrom
noncomputable abbrev ww_366 : Cond := .instanceMethod yX4_copyFrom
noncomputable abbrev ww_367 : Cond := .selects RX4 yX4_copyFrom yX4_copyFrom
noncomputable abbrev ww_368 : Cond := .code yX4_copyFrom cX4_copyFrom 2 none
noncomputable abbrev ww_369 : Cond := .fieldLink RX5 22 "LastCook$Sights" "size" "I"
noncomputable abbrev ww_370 : Cond := .methodLink RX5 26 arraycopyName
noncomputable abbrev ww_371 : Cond := .methodLink RX5 32 Lib.Math.max.name
noncomputable abbrev ww_372 : Cond := .fieldLink RX5 38 "LastCook$Road" "yards" "[I"
noncomputable abbrev ww_373 : Cond := .methodLink RJ0 1059 yJ3_checkIndex_8e157
noncomputable abbrev ww_374 : Cond := .static yJ3_checkIndex_8e157
noncomputable abbrev ww_375 : Cond := .code yJ3_checkIndex_8e157 cJ3_checkIndex_8e157 3 (some .int)
noncomputable abbrev ww_376 : Cond := .methodLink RJ1 9 yJ0_checkIndex_df160
noncomputable abbrev ww_377 : Cond := .static yJ0_checkIndex_df160
noncomputable abbrev ww_378 : Cond := .code yJ0_checkIndex_df160 cJ0_checkIndex_df160 2 none
noncomputable abbrev ww_379 : Cond := .methodLink RJ2 414 yJ0_checkIndex_df160
noncomputable abbrev ww_380 : Cond := .methodLink RJ2 67 yJ2_checkIndex_2214a
noncomputable abbrev ww_381 : Cond := .static yJ2_checkIndex_2214a
noncomputable abbrev ww_382 : Cond := .code yJ2_checkIndex_2214a cJ2_checkIndex_2214a 2 none
noncomputable abbrev ww_383 : Cond := .methodLink RJ0 495 yJ1_charAt_3b067
noncomputable abbrev ww_384 : Cond := .static yJ1_charAt_3b067
noncomputable abbrev ww_385 : Cond := .code yJ1_charAt_3b067 cJ1_charAt_3b067 2 (some .char)
noncomputable abbrev ww_386 : Cond := .methodLink RJ0 498 yJ2_charAt_3b067
noncomputable abbrev ww_387 : Cond := .static yJ2_charAt_3b067
noncomputable abbrev ww_388 : Cond := .code yJ2_charAt_3b067 cJ2_charAt_3b067 2 (some .char)
noncomputable abbrev ww_389 : Cond := .methodLink RX6 3 objectInit
noncomputable abbrev ww_390 : Cond := .arrayClass .byte
noncomputable abbrev ww_391 : Cond := .arrayClass .long
noncomputable abbrev ww_392 : Cond := .methodLink RX6 21 yJ0_length_8abf5
noncomputable abbrev ww_393 : Cond := .methodLink RX6 27 yJ0_charAt_5068e
noncomputable abbrev ww_394 : Cond := .instanceMethod yJ0_charAt_5068e
noncomputable abbrev ww_395 : Cond := .selects RJ0 yJ0_charAt_5068e yJ0_charAt_5068e
noncomputable abbrev ww_396 : Cond := .code yJ0_charAt_5068e cJ0_charAt_5068e 2 (some .char)
noncomputable abbrev ww_397 : Cond := .constantLong RX6 39 (255)
noncomputable abbrev ww_398 : Cond := .methodLink RX6 90 yX6_isWord
noncomputable abbrev ww_399 : Cond := .methodLink RX7 3 objectInit
noncomputable abbrev ww_400 : Cond := .fieldLink RX7 15 "LastCook$Told" "kinds" "[I"
noncomputable abbrev ww_401 : Cond := .fieldLink RX7 19 "LastCook$Told" "yards" "[I"
noncomputable abbrev ww_402 : Cond := .fieldLink RX7 22 "LastCook$Told" "paces" "[I"
noncomputable abbrev ww_403 : Cond := .fieldLink RX7 25 "LastCook$Told" "skills" "[I"
noncomputable abbrev ww_404 : Cond := .classLink RX7 31 RX0
noncomputable abbrev ww_405 : Cond := .instantiable RX0 5
noncomputable abbrev ww_406 : Cond := .fieldLink RX7 34 "LastCook$Told" "law" "LLastCook$Law;"
noncomputable abbrev ww_407 : Cond := .fieldLink RX7 38 "LastCook$Told" "bend" "I"
noncomputable abbrev ww_408 : Cond := .fieldLink RX7 42 "LastCook$Told" "hour" "I"
noncomputable abbrev ww_409 : Cond := .instanceMethod yX0_init
noncomputable abbrev ww_410 : Cond := .code yX0_init cX0_init 1 none
noncomputable abbrev ww_411 : Cond := .fieldLink RX7 54 "LastCook$Told" "bendTold" "Z"
noncomputable abbrev ww_412 : Cond := .fieldLink RX7 58 "LastCook$Told" "hourTold" "Z"
noncomputable abbrev ww_413 : Cond := .methodLink RX7 45 yX0_clear
noncomputable abbrev ww_414 : Cond := .instanceMethod yX0_clear
noncomputable abbrev ww_415 : Cond := .selects RX0 yX0_clear yX0_clear
noncomputable abbrev ww_416 : Cond := .code yX0_clear cX0_clear 1 none
noncomputable abbrev ww_417 : Cond := .methodLink RX7 118 yX6_takeWord
noncomputable abbrev ww_418 : Cond := .instanceMethod yX6_takeWord
noncomputable abbrev ww_419 : Cond := .selects RX6 yX6_takeWord yX6_takeWord
noncomputable abbrev ww_420 : Cond := .code yX6_takeWord cX6_takeWord 2 (some .boolean)
noncomputable abbrev ww_421 : Cond := .methodLink RX7 121 yX6_takeNumber
noncomputable abbrev ww_422 : Cond := .fieldLink RX7 106 "LastCook$Tape" "letters" "J"
noncomputable abbrev ww_423 : Cond := .methodLink RX7 92 yX6_wrong
noncomputable abbrev ww_424 : Cond := .methodLink RX7 100 yX6_advance
noncomputable abbrev ww_425 : Cond := .methodLink RX7 103 yX6_isName
noncomputable abbrev ww_426 : Cond := .methodLink RX7 110 yX7_numberOf
noncomputable abbrev ww_427 : Cond := .methodLink RX7 68 yX6_wordHere
noncomputable abbrev ww_428 : Cond := .methodLink RX7 114 yX7_readMeasure
noncomputable abbrev ww_429 : Cond := .static yX7_readMeasure
noncomputable abbrev ww_430 : Cond := .code yX7_readMeasure cX7_readMeasure 4 (some .int)
noncomputable abbrev ww_431 : Cond := .fieldLink RX7 132 "LastCook$Tape" "value" "I"
noncomputable abbrev ww_432 : Cond := .methodLink RX7 125 yX6_isNumber
noncomputable abbrev ww_433 : Cond := .methodLink RX7 128 yX6_checkNumber
noncomputable abbrev ww_434 : Cond := .methodLink RX7 61 yX7_clear
noncomputable abbrev ww_435 : Cond := .instanceMethod yX7_clear
noncomputable abbrev ww_436 : Cond := .selects RX7 yX7_clear yX7_clear
noncomputable abbrev ww_437 : Cond := .code yX7_clear cX7_clear 1 none
noncomputable abbrev ww_438 : Cond := .methodLink RX7 64 yX6_isAtEnd
noncomputable abbrev ww_439 : Cond := .methodLink RX7 72 yX7_readGuest
noncomputable abbrev ww_440 : Cond := .instanceMethod yX7_readGuest
noncomputable abbrev ww_441 : Cond := .selects RX7 yX7_readGuest yX7_readGuest
noncomputable abbrev ww_442 : Cond := .code yX7_readGuest cX7_readGuest 4 (some .boolean)
noncomputable abbrev ww_443 : Cond := .methodLink RX7 76 yX7_readBend
noncomputable abbrev ww_444 : Cond := .instanceMethod yX7_readBend
noncomputable abbrev ww_445 : Cond := .selects RX7 yX7_readBend yX7_readBend
noncomputable abbrev ww_446 : Cond := .code yX7_readBend cX7_readBend 2 (some .boolean)
noncomputable abbrev ww_447 : Cond := .methodLink RX7 79 yX7_readHour
noncomputable abbrev ww_448 : Cond := .instanceMethod yX7_readHour
noncomputable abbrev ww_449 : Cond := .selects RX7 yX7_readHour yX7_readHour
noncomputable abbrev ww_450 : Cond := .code yX7_readHour cX7_readHour 2 (some .boolean)
noncomputable abbrev ww_451 : Cond := .methodLink RX7 82 yX7_readSnow
noncomputable abbrev ww_452 : Cond := .instanceMethod yX7_readSnow
noncomputable abbrev ww_453 : Cond := .selects RX7 yX7_readSnow yX7_readSnow
noncomputable abbrev ww_454 : Cond := .code yX7_readSnow cX7_readSnow 3 (some .boolean)
noncomputable abbrev ww_455 : Cond := .methodLink RX7 85 yX0_takeTastes
noncomputable abbrev ww_456 : Cond := .instanceMethod yX0_takeTastes
noncomputable abbrev ww_457 : Cond := .selects RX0 yX0_takeTastes yX0_takeTastes
noncomputable abbrev ww_458 : Cond := .code yX0_takeTastes cX0_takeTastes 2 (some .boolean)
noncomputable abbrev ww_459 : Cond := .methodLink RX7 88 yX0_readOver
noncomputable abbrev ww_460 : Cond := .methodLink RX7 96 yX6_takeSign
noncomputable abbrev ww_461 : Cond := .methodLink RX8 1 objectInit
noncomputable abbrev ww_462 : Cond := .classLink RX8 7 RX6
noncomputable abbrev ww_463 : Cond := .instantiable RX6 9
noncomputable abbrev ww_464 : Cond := .fieldLink RX8 10 "LastCook" "tape" "LLastCook$Tape;"
noncomputable abbrev ww_465 : Cond := .classLink RX8 16 RX7
noncomputable abbrev ww_466 : Cond := .instantiable RX7 13
noncomputable abbrev ww_467 : Cond := .fieldLink RX8 19 "LastCook" "told" "LLastCook$Told;"
noncomputable abbrev ww_468 : Cond := .fieldLink RX8 23 "LastCook" "draft" "LLastCook$Told;"
noncomputable abbrev ww_469 : Cond := .classLink RX8 26 RX1
noncomputable abbrev ww_470 : Cond := .fieldLink RX8 29 "LastCook" "lines" "LLastCook$Lines;"
noncomputable abbrev ww_471 : Cond := .fieldLink RX8 33 "LastCook" "draftLines" "LLastCook$Lines;"
noncomputable abbrev ww_472 : Cond := .classLink RX8 36 RX4
noncomputable abbrev ww_473 : Cond := .fieldLink RX8 39 "LastCook" "now" "LLastCook$Road;"
noncomputable abbrev ww_474 : Cond := .fieldLink RX8 43 "LastCook" "trial" "LLastCook$Road;"
noncomputable abbrev ww_475 : Cond := .classLink RX8 46 RX5
noncomputable abbrev ww_476 : Cond := .fieldLink RX8 49 "LastCook" "sights" "LLastCook$Sights;"
noncomputable abbrev ww_477 : Cond := .classLink RX8 53 RX3
noncomputable abbrev ww_478 : Cond := .instantiable RX3 3
noncomputable abbrev ww_479 : Cond := .initialized RX3
noncomputable abbrev ww_480 : Cond := .fieldLink RX8 56 "LastCook" "past" "LLastCook$Past;"
noncomputable abbrev ww_481 : Cond := .classLink RX8 60 RX2
noncomputable abbrev ww_482 : Cond := .fieldLink RX8 62 "LastCook" "marks" "[LLastCook$Mark;"
noncomputable abbrev ww_483 : Cond := .instantiable RX2 4
noncomputable abbrev ww_484 : Cond := .initialized RX2
noncomputable abbrev ww_485 : Cond := .methodLink RX8 9 yX6_init
noncomputable abbrev ww_486 : Cond := .instanceMethod yX6_init
noncomputable abbrev ww_487 : Cond := .code yX6_init cX6_init 6 none
noncomputable abbrev ww_488 : Cond := .instanceMethod yX7_init
noncomputable abbrev ww_489 : Cond := .code yX7_init cX7_init 1 none
noncomputable abbrev ww_490 : Cond := .methodLink RX8 55 yX3_init
noncomputable abbrev ww_491 : Cond := .instanceMethod yX3_init
noncomputable abbrev ww_492 : Cond := .code yX3_init cX3_init 2 none
noncomputable abbrev ww_493 : Cond := .instanceMethod yX2_init
noncomputable abbrev ww_494 : Cond := .code yX2_init cX2_init 1 none
noncomputable abbrev ww_495 : Cond := .fieldLink RX8 71 "LastCook$Tape" "length" "I"
noncomputable abbrev ww_496 : Cond := .methodLink RX8 67 yX6_put
noncomputable abbrev ww_497 : Cond := .instanceMethod yX6_put
noncomputable abbrev ww_498 : Cond := .selects RX6 yX6_put yX6_put
noncomputable abbrev ww_499 : Cond := .code yX6_put cX6_put 6 none
noncomputable abbrev ww_500 : Cond := .fieldLink RX8 98 "LastCook$Mark" "laid" "Z"
noncomputable abbrev ww_501 : Cond := .methodLink RX8 91 yX4_begin
noncomputable abbrev ww_502 : Cond := .instanceMethod yX4_begin
noncomputable abbrev ww_503 : Cond := .selects RX4 yX4_begin yX4_begin
noncomputable abbrev ww_504 : Cond := .code yX4_begin cX4_begin 3 none
noncomputable abbrev ww_505 : Cond := .methodLink RX8 95 yX1_clear
noncomputable abbrev ww_506 : Cond := .methodLink RX8 96 yX5_clear
noncomputable abbrev ww_507 : Cond := .instanceMethod yX5_clear
noncomputable abbrev ww_508 : Cond := .selects RX5 yX5_clear yX5_clear
noncomputable abbrev ww_509 : Cond := .code yX5_clear cX5_clear 1 none
noncomputable abbrev ww_510 : Cond := .methodLink RX8 97 yX3_clear
noncomputable abbrev ww_511 : Cond := .instanceMethod yX3_clear
noncomputable abbrev ww_512 : Cond := .selects RX3 yX3_clear yX3_clear
noncomputable abbrev ww_513 : Cond := .code yX3_clear cX3_clear 1 none
noncomputable abbrev ww_514 : Cond := .fieldLink RX8 85 "LastCook$Tape" "fault" "I"
noncomputable abbrev ww_515 : Cond := .methodLink RX8 75 yX6_rewind
noncomputable abbrev ww_516 : Cond := .instanceMethod yX6_rewind
noncomputable abbrev ww_517 : Cond := .selects RX6 yX6_rewind yX6_rewind
noncomputable abbrev ww_518 : Cond := .code yX6_rewind cX6_rewind 1 none
noncomputable abbrev ww_519 : Cond := .methodLink RX8 78 yX7_read
noncomputable abbrev ww_520 : Cond := .instanceMethod yX7_read
noncomputable abbrev ww_521 : Cond := .selects RX7 yX7_read yX7_read
noncomputable abbrev ww_522 : Cond := .code yX7_read cX7_read 4 (some .boolean)
noncomputable abbrev ww_523 : Cond := .methodLink RX8 82 yX6_clear
noncomputable abbrev ww_524 : Cond := .instanceMethod yX6_clear
noncomputable abbrev ww_525 : Cond := .selects RX6 yX6_clear yX6_clear
noncomputable abbrev ww_526 : Cond := .code yX6_clear cX6_clear 1 none
noncomputable abbrev ww_527 : Cond := .methodLink RX8 88 yX8_beginAnew
noncomputable abbrev ww_528 : Cond := .instanceMethod yX8_beginAnew
noncomputable abbrev ww_529 : Cond := .selects RX8 yX8_beginAnew yX8_beginAnew
noncomputable abbrev ww_530 : Cond := .code yX8_beginAnew cX8_beginAnew 2 none
noncomputable abbrev ww_531 : Cond := .methodLink RX8 102 yX1_read
noncomputable abbrev ww_532 : Cond := .instanceMethod yX1_read
noncomputable abbrev ww_533 : Cond := .selects RX1 yX1_read yX1_read
noncomputable abbrev ww_534 : Cond := .code yX1_read cX1_read 4 (some .boolean)
noncomputable abbrev ww_535 : Cond := .fieldLink RX8 210 "LastCook$Told" "guests" "I"
noncomputable abbrev ww_536 : Cond := .fieldLink RX8 109 "LastCook$Told" "kinds" "[I"
noncomputable abbrev ww_537 : Cond := .fieldLink RX8 113 "LastCook$Road" "yards" "[I"
noncomputable abbrev ww_538 : Cond := .fieldLink RX8 116 "LastCook$Road" "paces" "[I"
noncomputable abbrev ww_539 : Cond := .fieldLink RX8 119 "LastCook$Told" "skills" "[I"
noncomputable abbrev ww_540 : Cond := .fieldLink RX8 122 "LastCook$Road" "places" "[I"
noncomputable abbrev ww_541 : Cond := .fieldLink RX8 125 "LastCook$Road" "stuck" "[I"
noncomputable abbrev ww_542 : Cond := .fieldLink RX8 128 "LastCook$Road" "hirers" "[I"
noncomputable abbrev ww_543 : Cond := .fieldLink RX8 131 "LastCook$Road" "cooked" "[I"
noncomputable abbrev ww_544 : Cond := .methodLink RX8 105 yX8_isGuest
noncomputable abbrev ww_545 : Cond := .instanceMethod yX8_isGuest
noncomputable abbrev ww_546 : Cond := .selects RX8 yX8_isGuest yX8_isGuest
noncomputable abbrev ww_547 : Cond := .code yX8_isGuest cX8_isGuest 2 (some .boolean)
noncomputable abbrev ww_548 : Cond := .methodLink RX8 213 yX4_isOnRoad
noncomputable abbrev ww_549 : Cond := .methodLink RX8 134 yX8_isGuestOnRoad
noncomputable abbrev ww_550 : Cond := .instanceMethod yX8_isGuestOnRoad
noncomputable abbrev ww_551 : Cond := .selects RX8 yX8_isGuestOnRoad yX8_isGuestOnRoad
noncomputable abbrev ww_552 : Cond := .code yX8_isGuestOnRoad cX8_isGuestOnRoad 2 (some .boolean)
noncomputable abbrev ww_553 : Cond := .methodLink RX8 137 yX8_isWithin
noncomputable abbrev ww_554 : Cond := .methodLink RX8 141 yX3_keep
noncomputable abbrev ww_555 : Cond := .instanceMethod yX3_keep
noncomputable abbrev ww_556 : Cond := .selects RX3 yX3_keep yX3_keep
noncomputable abbrev ww_557 : Cond := .code yX3_keep cX3_keep 2 none
noncomputable abbrev ww_558 : Cond := .methodLink RX8 145 yX4_loseWheel
noncomputable abbrev ww_559 : Cond := .methodLink RX8 149 yX4_quicken
noncomputable abbrev ww_560 : Cond := .methodLink RX8 152 yX4_canEngage
noncomputable abbrev ww_561 : Cond := .methodLink RX8 155 yX4_engage
noncomputable abbrev ww_562 : Cond := .methodLink RX8 158 yX4_pass
noncomputable abbrev ww_563 : Cond := .methodLink RX8 162 yX3_giveBack
noncomputable abbrev ww_564 : Cond := .instanceMethod yX3_giveBack
noncomputable abbrev ww_565 : Cond := .selects RX3 yX3_giveBack yX3_giveBack
noncomputable abbrev ww_566 : Cond := .code yX3_giveBack cX3_giveBack 2 (some .boolean)
noncomputable abbrev ww_567 : Cond := .fieldLink RX8 166 "LastCook$Lines" "size" "I"
noncomputable abbrev ww_568 : Cond := .fieldLink RX8 173 "LastCook$Road" "night" "I"
noncomputable abbrev ww_569 : Cond := .fieldLink RX8 176 "LastCook$Road" "tasted" "I"
noncomputable abbrev ww_570 : Cond := .methodLink RX8 169 yX1_play
noncomputable abbrev ww_571 : Cond := .instanceMethod yX1_play
noncomputable abbrev ww_572 : Cond := .selects RX1 yX1_play yX1_play
noncomputable abbrev ww_573 : Cond := .code yX1_play cX1_play 5 (some .boolean)
noncomputable abbrev ww_574 : Cond := .methodLink RX8 179 yX4_copyFrom
noncomputable abbrev ww_575 : Cond := .methodLink RX8 182 yX4_goOn
noncomputable abbrev ww_576 : Cond := .instanceMethod yX4_goOn
noncomputable abbrev ww_577 : Cond := .selects RX4 yX4_goOn yX4_goOn
noncomputable abbrev ww_578 : Cond := .code yX4_goOn cX4_goOn 4 (some .int)
noncomputable abbrev ww_579 : Cond := .fieldLink RX8 204 "LastCook$Road" "lastCook" "I"
noncomputable abbrev ww_580 : Cond := .methodLink RX8 186 yX8_nextCook
noncomputable abbrev ww_581 : Cond := .instanceMethod yX8_nextCook
noncomputable abbrev ww_582 : Cond := .selects RX8 yX8_nextCook yX8_nextCook
noncomputable abbrev ww_583 : Cond := .code yX8_nextCook cX8_nextCook 1 (some .int)
noncomputable abbrev ww_584 : Cond := .fieldLink RX8 190 "LastCook$Road" "inside" "I"
noncomputable abbrev ww_585 : Cond := .methodLink RX8 193 yX4_walkOn
noncomputable abbrev ww_586 : Cond := .instanceMethod yX4_walkOn
noncomputable abbrev ww_587 : Cond := .selects RX4 yX4_walkOn yX4_walkOn
noncomputable abbrev ww_588 : Cond := .code yX4_walkOn cX4_walkOn 2 none
noncomputable abbrev ww_589 : Cond := .methodLink RX8 196 yX4_atPlace
noncomputable abbrev ww_590 : Cond := .methodLink RX8 200 yX8_lookAhead
noncomputable abbrev ww_591 : Cond := .instanceMethod yX8_lookAhead
noncomputable abbrev ww_592 : Cond := .selects RX8 yX8_lookAhead yX8_lookAhead
noncomputable abbrev ww_593 : Cond := .code yX8_lookAhead cX8_lookAhead 3 none
noncomputable abbrev ww_594 : Cond := .methodLink RX8 207 yX8_nextTaste
noncomputable abbrev ww_595 : Cond := .instanceMethod yX8_nextTaste
noncomputable abbrev ww_596 : Cond := .selects RX8 yX8_nextTaste yX8_nextTaste
noncomputable abbrev ww_597 : Cond := .code yX8_nextTaste cX8_nextTaste 2 (some .int)
noncomputable abbrev ww_598 : Cond := .methodLink RX8 216 yX4_onRoadWithin
noncomputable abbrev ww_599 : Cond := .instanceMethod yX4_onRoadWithin
noncomputable abbrev ww_600 : Cond := .selects RX4 yX4_onRoadWithin yX4_onRoadWithin
noncomputable abbrev ww_601 : Cond := .code yX4_onRoadWithin cX4_onRoadWithin 5 (some .int)
noncomputable abbrev ww_602 : Cond := .fieldLink RX8 220 "LastCook$Road" "cameAt" "[I"
noncomputable abbrev ww_603 : Cond := .methodLink RX8 223 yX4_cameIn
noncomputable abbrev ww_604 : Cond := .instanceMethod yX4_cameIn
noncomputable abbrev ww_605 : Cond := .selects RX4 yX4_cameIn yX4_cameIn
noncomputable abbrev ww_606 : Cond := .code yX4_cameIn cX4_cameIn 4 (some .int)
noncomputable abbrev ww_607 : Cond := .fieldLink RX8 229 "LastCook$Told" "bend" "I"
noncomputable abbrev ww_608 : Cond := .methodLink RX8 226 yX4_holdingBack
noncomputable abbrev ww_609 : Cond := .methodLink RX8 232 Lib.Math.max.name
noncomputable abbrev ww_610 : Cond := .methodLink RX8 237 Lib.Math.min.name
noncomputable abbrev ww_611 : Cond := .methodLink RX8 240 yX5_add
noncomputable abbrev ww_612 : Cond := .instanceMethod yX5_add
noncomputable abbrev ww_613 : Cond := .selects RX5 yX5_add yX5_add
noncomputable abbrev ww_614 : Cond := .code yX5_add cX5_add 4 (some .boolean)
noncomputable abbrev ww_615 : Cond := .methodLink RX8 304 yX5_lastMinute
noncomputable abbrev ww_616 : Cond := .instanceMethod yX5_lastMinute
noncomputable abbrev ww_617 : Cond := .selects RX5 yX5_lastMinute yX5_lastMinute
noncomputable abbrev ww_618 : Cond := .code yX5_lastMinute cX5_lastMinute 3 (some .int)
noncomputable abbrev ww_619 : Cond := .methodLink RX8 307 yX5_fitting
noncomputable abbrev ww_620 : Cond := .instanceMethod yX5_fitting
noncomputable abbrev ww_621 : Cond := .selects RX5 yX5_fitting yX5_fitting
noncomputable abbrev ww_622 : Cond := .code yX5_fitting cX5_fitting 6 (some .int)
noncomputable abbrev ww_623 : Cond := .methodLink RX8 244 yX8_suspects
noncomputable abbrev ww_624 : Cond := .instanceMethod yX8_suspects
noncomputable abbrev ww_625 : Cond := .selects RX8 yX8_suspects yX8_suspects
noncomputable abbrev ww_626 : Cond := .code yX8_suspects cX8_suspects 4 (some .int)
noncomputable abbrev ww_627 : Cond := .constant RJ6 265 (1431655765)
noncomputable abbrev ww_628 : Cond := .constant RJ6 266 (858993459)
noncomputable abbrev ww_629 : Cond := .constant RJ6 267 (252645135)
noncomputable abbrev ww_630 : Cond := .methodLink RX8 247 yJ6_bitCount_0f7a4
noncomputable abbrev ww_631 : Cond := .static yJ6_bitCount_0f7a4
noncomputable abbrev ww_632 : Cond := .initialized RJ6
noncomputable abbrev ww_633 : Cond := .code yJ6_bitCount_0f7a4 cJ6_bitCount_0f7a4 1 (some .int)
noncomputable abbrev ww_634 : Cond := .methodLink RX8 252 yX4_noFarther
noncomputable abbrev ww_635 : Cond := .instanceMethod yX4_noFarther
noncomputable abbrev ww_636 : Cond := .selects RX4 yX4_noFarther yX4_noFarther
noncomputable abbrev ww_637 : Cond := .code yX4_noFarther cX4_noFarther 5 (some .int)
noncomputable abbrev ww_638 : Cond := .methodLink RX8 311 yX4_passBySnow
noncomputable abbrev ww_639 : Cond := .methodLink RX8 255 yX8_isInBySnows
noncomputable abbrev ww_640 : Cond := .instanceMethod yX8_isInBySnows
noncomputable abbrev ww_641 : Cond := .selects RX8 yX8_isInBySnows yX8_isInBySnows
noncomputable abbrev ww_642 : Cond := .code yX8_isInBySnows cX8_isInBySnows 7 (some .boolean)
noncomputable abbrev ww_643 : Cond := .methodLink RX8 258 yX8_power
noncomputable abbrev ww_644 : Cond := .static yX8_power
noncomputable abbrev ww_645 : Cond := .code yX8_power cX8_power 4 (some .int)
noncomputable abbrev ww_646 : Cond := .methodLink RX8 314 yX8_gain
noncomputable abbrev ww_647 : Cond := .static yX8_gain
noncomputable abbrev ww_648 : Cond := .code yX8_gain cX8_gain 5 (some .int)
noncomputable abbrev ww_649 : Cond := .classLink RX8 261 "java/util/NoSuchElementException"
noncomputable abbrev ww_650 : Cond := .initialized "java/util/NoSuchElementException"
noncomputable abbrev ww_651 : Cond := .methodLink RX8 268 yX8_isContent
noncomputable abbrev ww_652 : Cond := .static yX8_isContent
noncomputable abbrev ww_653 : Cond := .code yX8_isContent cX8_isContent 5 (some .boolean)
noncomputable abbrev ww_654 : Cond := .fieldLink RX8 275 "LastCook" "drawn" "J"
noncomputable abbrev ww_655 : Cond := .constantLong RX8 321 (1103515245)
noncomputable abbrev ww_656 : Cond := .constantLong RX8 323 (12345)
noncomputable abbrev ww_657 : Cond := .constantLong RX8 325 (2147483648)
noncomputable abbrev ww_658 : Cond := .constantLong RX8 327 (65536)
noncomputable abbrev ww_659 : Cond := .methodLink RX8 318 yX8_draw
noncomputable abbrev ww_660 : Cond := .instanceMethod yX8_draw
noncomputable abbrev ww_661 : Cond := .selects RX8 yX8_draw yX8_draw
noncomputable abbrev ww_662 : Cond := .code yX8_draw cX8_draw 2 (some .int)
noncomputable abbrev ww_663 : Cond := .constant RX8 274 (-100000)
noncomputable abbrev ww_664 : Cond := .methodLink RX8 279 yX8_drawDeed
noncomputable abbrev ww_665 : Cond := .instanceMethod yX8_drawDeed
noncomputable abbrev ww_666 : Cond := .selects RX8 yX8_drawDeed yX8_drawDeed
noncomputable abbrev ww_667 : Cond := .code yX8_drawDeed cX8_drawDeed 3 none
noncomputable abbrev ww_668 : Cond := .fieldLink RX8 282 "LastCook$Mark" "road" "LLastCook$Road;"
noncomputable abbrev ww_669 : Cond := .fieldLink RX8 285 "LastCook$Mark" "lines" "LLastCook$Lines;"
noncomputable abbrev ww_670 : Cond := .fieldLink RX8 289 "LastCook$Mark" "sights" "LLastCook$Sights;"
noncomputable abbrev ww_671 : Cond := .methodLink RX8 286 yX1_copyFrom
noncomputable abbrev ww_672 : Cond := .instanceMethod yX1_copyFrom
noncomputable abbrev ww_673 : Cond := .selects RX1 yX1_copyFrom yX1_copyFrom
noncomputable abbrev ww_674 : Cond := .code yX1_copyFrom cX1_copyFrom 2 none
noncomputable abbrev ww_675 : Cond := .methodLink RX8 290 yX5_copyFrom
noncomputable abbrev ww_676 : Cond := .instanceMethod yX5_copyFrom
noncomputable abbrev ww_677 : Cond := .selects RX5 yX5_copyFrom yX5_copyFrom
noncomputable abbrev ww_678 : Cond := .code yX5_copyFrom cX5_copyFrom 2 none
noncomputable abbrev ww_679 : Cond := .fieldLink RX8 293 "LastCook$Told" "hour" "I"
noncomputable abbrev ww_680 : Cond := .fieldLink RX8 296 "LastCook$Road" "minute" "I"
noncomputable abbrev ww_681 : Cond := .fieldLink RX8 302 "LastCook$Sights" "size" "I"
noncomputable abbrev ww_682 : Cond := .fieldLink RX8 303 "LastCook$Past" "size" "I"
noncomputable abbrev ww_683 : Cond := .methodLink RX8 299 yX7_snowAt
noncomputable abbrev ww_684 : Cond := .fieldLink RX9 13 "LastCookModel" "supper" "[I"
noncomputable abbrev ww_685 : Cond := .fieldLink RX9 105 "LastCookModel" "s" "[I"
noncomputable abbrev ww_686 : Cond := .fieldLink RX9 23 "LastCookModel" "offTold" "[I"
noncomputable abbrev ww_687 : Cond := .methodLink RX9 313 yX9_sets
noncomputable abbrev ww_688 : Cond := .instanceMethod yX9_sets
noncomputable abbrev ww_689 : Cond := .selects RX9 yX9_sets yX9_sets
noncomputable abbrev ww_690 : Cond := .initialized RX9
noncomputable abbrev ww_691 : Cond := .code yX9_sets cX9_sets 2 none
noncomputable abbrev ww_692 : Cond := .methodLink RX9 1 objectInit
noncomputable abbrev ww_693 : Cond := .fieldLink RX9 7 "LastCookModel" "tape" "[I"
noncomputable abbrev ww_694 : Cond := .fieldLink RX9 16 "LastCookModel" "guestName" "[J"
noncomputable abbrev ww_695 : Cond := .fieldLink RX9 20 "LastCookModel" "kind" "[I"
noncomputable abbrev ww_696 : Cond := .fieldLink RX9 26 "LastCookModel" "pace" "[I"
noncomputable abbrev ww_697 : Cond := .fieldLink RX9 29 "LastCookModel" "cooks" "[I"
noncomputable abbrev ww_698 : Cond := .fieldLink RX9 32 "LastCookModel" "snow" "[I"
noncomputable abbrev ww_699 : Cond := .fieldLink RX9 35 "LastCookModel" "lineFrom" "[I"
noncomputable abbrev ww_700 : Cond := .fieldLink RX9 38 "LastCookModel" "lineTo" "[I"
noncomputable abbrev ww_701 : Cond := .fieldLink RX9 41 "LastCookModel" "codes" "[I"
noncomputable abbrev ww_702 : Cond := .fieldLink RX9 44 "LastCookModel" "opened" "[I"
noncomputable abbrev ww_703 : Cond := .fieldLink RX9 47 "LastCookModel" "compared" "[Z"
noncomputable abbrev ww_704 : Cond := .fieldLink RX9 51 "LastCookModel" "kept" "[I"
noncomputable abbrev ww_705 : Cond := .fieldLink RX9 54 "LastCookModel" "keptBy" "[I"
noncomputable abbrev ww_706 : Cond := .fieldLink RX9 57 "LastCookModel" "ahead" "[I"
noncomputable abbrev ww_707 : Cond := .fieldLink RX9 60 "LastCookModel" "against" "[I"
noncomputable abbrev ww_708 : Cond := .fieldLink RX9 63 "LastCookModel" "sum" "[I"
noncomputable abbrev ww_709 : Cond := .fieldLink RX9 66 "LastCookModel" "sumBy" "[I"
noncomputable abbrev ww_710 : Cond := .fieldLink RX9 69 "LastCookModel" "term" "[I"
noncomputable abbrev ww_711 : Cond := .fieldLink RX9 72 "LastCookModel" "termBy" "[I"
noncomputable abbrev ww_712 : Cond := .fieldLink RX9 75 "LastCookModel" "byNot" "[I"
noncomputable abbrev ww_713 : Cond := .fieldLink RX9 78 "LastCookModel" "valueOf" "[I"
noncomputable abbrev ww_714 : Cond := .fieldLink RX9 81 "LastCookModel" "lines" "[I"
noncomputable abbrev ww_715 : Cond := .fieldLink RX9 84 "LastCookModel" "lineWhat" "[I"
noncomputable abbrev ww_716 : Cond := .fieldLink RX9 87 "LastCookModel" "lineA" "[I"
noncomputable abbrev ww_717 : Cond := .fieldLink RX9 90 "LastCookModel" "lineB" "[I"
noncomputable abbrev ww_718 : Cond := .fieldLink RX9 93 "LastCookModel" "seens" "[I"
noncomputable abbrev ww_719 : Cond := .fieldLink RX9 96 "LastCookModel" "seenIn" "[I"
noncomputable abbrev ww_720 : Cond := .fieldLink RX9 99 "LastCookModel" "seenYards" "[I"
noncomputable abbrev ww_721 : Cond := .fieldLink RX9 102 "LastCookModel" "seenNear" "[Z"
noncomputable abbrev ww_722 : Cond := .fieldLink RX9 108 "LastCookModel" "aside" "[I"
noncomputable abbrev ww_723 : Cond := .fieldLink RX9 111 "LastCookModel" "before" "[I"
noncomputable abbrev ww_724 : Cond := .fieldLink RX9 114 "LastCookModel" "marked" "[I"
noncomputable abbrev ww_725 : Cond := .fieldLink RX9 117 "LastCookModel" "undone" "[I"
noncomputable abbrev ww_726 : Cond := .fieldLink RX9 120 "LastCookModel" "isLaid" "[Z"
noncomputable abbrev ww_727 : Cond := .fieldLink RX9 123 "LastCookModel" "snowNow" "I"
noncomputable abbrev ww_728 : Cond := .fieldLink RX9 127 "LastCookModel" "places" "[I"
noncomputable abbrev ww_729 : Cond := .fieldLink RX9 130 "LastCookModel" "comesAt" "[I"
noncomputable abbrev ww_730 : Cond := .fieldLink RX9 133 "LastCookModel" "yardsIn" "[I"
noncomputable abbrev ww_731 : Cond := .methodLink RX9 136 yX9_usual
noncomputable abbrev ww_732 : Cond := .instanceMethod yX9_usual
noncomputable abbrev ww_733 : Cond := .selects RX9 yX9_usual yX9_usual
noncomputable abbrev ww_734 : Cond := .code yX9_usual cX9_usual 2 none
noncomputable abbrev ww_735 : Cond := .methodLink RX9 140 yX9_fresh0
noncomputable abbrev ww_736 : Cond := .instanceMethod yX9_fresh0
noncomputable abbrev ww_737 : Cond := .selects RX9 yX9_fresh0 yX9_fresh0
noncomputable abbrev ww_738 : Cond := .code yX9_fresh0 cX9_fresh0 2 none
noncomputable abbrev ww_739 : Cond := .fieldLink RX9 143 "LastCookModel" "thrown" "I"
noncomputable abbrev ww_740 : Cond := .constantLong RX9 146 (255)
noncomputable abbrev ww_741 : Cond := .fieldLink RX9 148 "LastCookModel" "taped" "I"
noncomputable abbrev ww_742 : Cond := .fieldLink RX9 151 "LastCookModel" "size" "I"
noncomputable abbrev ww_743 : Cond := .fieldLink RX9 154 "LastCookModel" "place" "I"
noncomputable abbrev ww_744 : Cond := .fieldLink RX9 157 "LastCookModel" "begin" "I"
noncomputable abbrev ww_745 : Cond := .fieldLink RX9 160 "LastCookModel" "word" "J"
noncomputable abbrev ww_746 : Cond := .fieldLink RX9 164 "LastCookModel" "told" "I"
noncomputable abbrev ww_747 : Cond := .fieldLink RX9 167 "LastCookModel" "token" "I"
noncomputable abbrev ww_748 : Cond := .constantLong RX9 174 (27)
noncomputable abbrev ww_749 : Cond := .constantLong RX9 176 (96)
noncomputable abbrev ww_750 : Cond := .methodLink RX9 170 yX9_signAt
noncomputable abbrev ww_751 : Cond := .instanceMethod yX9_signAt
noncomputable abbrev ww_752 : Cond := .selects RX9 yX9_signAt yX9_signAt
noncomputable abbrev ww_753 : Cond := .code yX9_signAt cX9_signAt 2 (some .int)
noncomputable abbrev ww_754 : Cond := .fieldLink RX9 178 "LastCookModel" "wrong" "I"
noncomputable abbrev ww_755 : Cond := .fieldLink RX9 181 "LastCookModel" "code" "I"
noncomputable abbrev ww_756 : Cond := .constantLong RX9 184 (10320789)
noncomputable abbrev ww_757 : Cond := .constantLong RX9 186 (237470)
noncomputable abbrev ww_758 : Cond := .constantLong RX9 188 (111715435)
noncomputable abbrev ww_759 : Cond := .constantLong RX9 190 (7622660)
noncomputable abbrev ww_760 : Cond := .constantLong RX9 196 (10631)
noncomputable abbrev ww_761 : Cond := .constantLong RX9 215 (1111)
noncomputable abbrev ww_762 : Cond := .constantLong RX9 217 (423)
noncomputable abbrev ww_763 : Cond := .methodLink RX9 192 yX9_fact
noncomputable abbrev ww_764 : Cond := .instanceMethod yX9_fact
noncomputable abbrev ww_765 : Cond := .selects RX9 yX9_fact yX9_fact
noncomputable abbrev ww_766 : Cond := .code yX9_fact cX9_fact 1 (some .int)
noncomputable abbrev ww_767 : Cond := .methodLink RX9 198 yX9_isWord
noncomputable abbrev ww_768 : Cond := .instanceMethod yX9_isWord
noncomputable abbrev ww_769 : Cond := .selects RX9 yX9_isWord yX9_isWord
noncomputable abbrev ww_770 : Cond := .code yX9_isWord cX9_isWord 3 (some .boolean)
noncomputable abbrev ww_771 : Cond := .methodLink RX9 202 yX9_isSign
noncomputable abbrev ww_772 : Cond := .instanceMethod yX9_isSign
noncomputable abbrev ww_773 : Cond := .selects RX9 yX9_isSign yX9_isSign
noncomputable abbrev ww_774 : Cond := .code yX9_isSign cX9_isSign 2 (some .boolean)
noncomputable abbrev ww_775 : Cond := .methodLink RX9 206 yX9_fails
noncomputable abbrev ww_776 : Cond := .instanceMethod yX9_fails
noncomputable abbrev ww_777 : Cond := .selects RX9 yX9_fails yX9_fails
noncomputable abbrev ww_778 : Cond := .code yX9_fails cX9_fails 2 (some .boolean)
noncomputable abbrev ww_779 : Cond := .methodLink RX9 209 yX9_puts
noncomputable abbrev ww_780 : Cond := .instanceMethod yX9_puts
noncomputable abbrev ww_781 : Cond := .selects RX9 yX9_puts yX9_puts
noncomputable abbrev ww_782 : Cond := .code yX9_puts cX9_puts 2 none
noncomputable abbrev ww_783 : Cond := .methodLink RX9 212 yX9_nextToken
noncomputable abbrev ww_784 : Cond := .instanceMethod yX9_nextToken
noncomputable abbrev ww_785 : Cond := .selects RX9 yX9_nextToken yX9_nextToken
noncomputable abbrev ww_786 : Cond := .code yX9_nextToken cX9_nextToken 2 none
noncomputable abbrev ww_787 : Cond := .methodLink RX9 219 yX9_sums
noncomputable abbrev ww_788 : Cond := .instanceMethod yX9_sums
noncomputable abbrev ww_789 : Cond := .selects RX9 yX9_sums yX9_sums
noncomputable abbrev ww_790 : Cond := .code yX9_sums cX9_sums 2 none
noncomputable abbrev ww_791 : Cond := .methodLink RX9 222 yX9_opens
noncomputable abbrev ww_792 : Cond := .instanceMethod yX9_opens
noncomputable abbrev ww_793 : Cond := .selects RX9 yX9_opens yX9_opens
noncomputable abbrev ww_794 : Cond := .code yX9_opens cX9_opens 2 none
noncomputable abbrev ww_795 : Cond := .methodLink RX9 225 yX9_tests
noncomputable abbrev ww_796 : Cond := .instanceMethod yX9_tests
noncomputable abbrev ww_797 : Cond := .selects RX9 yX9_tests yX9_tests
noncomputable abbrev ww_798 : Cond := .code yX9_tests cX9_tests 3 none
noncomputable abbrev ww_799 : Cond := .constantLong RX9 228 (4137608)
noncomputable abbrev ww_800 : Cond := .constantLong RX9 230 (11103)
noncomputable abbrev ww_801 : Cond := .constantLong RX9 232 (315743)
noncomputable abbrev ww_802 : Cond := .constantLong RX9 234 (1900819)
noncomputable abbrev ww_803 : Cond := .constantLong RX9 236 (43393)
noncomputable abbrev ww_804 : Cond := .constantLong RX9 238 (168984)
noncomputable abbrev ww_805 : Cond := .constantLong RX9 240 (384611)
noncomputable abbrev ww_806 : Cond := .constantLong RX9 242 (287898292)
noncomputable abbrev ww_807 : Cond := .constantLong RX9 244 (12384399)
noncomputable abbrev ww_808 : Cond := .constantLong RX9 246 (13703)
noncomputable abbrev ww_809 : Cond := .constantLong RX9 248 (164516)
noncomputable abbrev ww_810 : Cond := .constantLong RX9 250 (191610176)
noncomputable abbrev ww_811 : Cond := .constantLong RX9 252 (8740238)
noncomputable abbrev ww_812 : Cond := .constantLong RX9 254 (65441295)
noncomputable abbrev ww_813 : Cond := .constantLong RX9 256 (14092)
noncomputable abbrev ww_814 : Cond := .constantLong RX9 258 (4078073)
noncomputable abbrev ww_815 : Cond := .fieldLink RX9 264 "LastCookModel" "given" "I"
noncomputable abbrev ww_816 : Cond := .methodLink RX9 260 yX9_within
noncomputable abbrev ww_817 : Cond := .static yX9_within
noncomputable abbrev ww_818 : Cond := .code yX9_within cX9_within 3 (some .boolean)
noncomputable abbrev ww_819 : Cond := .methodLink RX9 267 yX9_needsNumber
noncomputable abbrev ww_820 : Cond := .instanceMethod yX9_needsNumber
noncomputable abbrev ww_821 : Cond := .selects RX9 yX9_needsNumber yX9_needsNumber
noncomputable abbrev ww_822 : Cond := .code yX9_needsNumber cX9_needsNumber 3 (some .boolean)
noncomputable abbrev ww_823 : Cond := .methodLink RX9 271 yX9_isKept
noncomputable abbrev ww_824 : Cond := .instanceMethod yX9_isKept
noncomputable abbrev ww_825 : Cond := .selects RX9 yX9_isKept yX9_isKept
noncomputable abbrev ww_826 : Cond := .code yX9_isKept cX9_isKept 1 (some .boolean)
noncomputable abbrev ww_827 : Cond := .methodLink RX9 275 yX9_guestNamed
noncomputable abbrev ww_828 : Cond := .instanceMethod yX9_guestNamed
noncomputable abbrev ww_829 : Cond := .selects RX9 yX9_guestNamed yX9_guestNamed
noncomputable abbrev ww_830 : Cond := .code yX9_guestNamed cX9_guestNamed 3 (some .int)
noncomputable abbrev ww_831 : Cond := .methodLink RX9 278 yX9_needsBoth
noncomputable abbrev ww_832 : Cond := .instanceMethod yX9_needsBoth
noncomputable abbrev ww_833 : Cond := .selects RX9 yX9_needsBoth yX9_needsBoth
noncomputable abbrev ww_834 : Cond := .code yX9_needsBoth cX9_needsBoth 5 (some .boolean)
noncomputable abbrev ww_835 : Cond := .methodLink RX9 282 yX9_closes
noncomputable abbrev ww_836 : Cond := .instanceMethod yX9_closes
noncomputable abbrev ww_837 : Cond := .selects RX9 yX9_closes yX9_closes
noncomputable abbrev ww_838 : Cond := .code yX9_closes cX9_closes 1 (some .boolean)
noncomputable abbrev ww_839 : Cond := .fieldLink RX9 285 "LastCookModel" "toldLines" "I"
noncomputable abbrev ww_840 : Cond := .methodLink RX9 288 yX9_reads
noncomputable abbrev ww_841 : Cond := .instanceMethod yX9_reads
noncomputable abbrev ww_842 : Cond := .selects RX9 yX9_reads yX9_reads
noncomputable abbrev ww_843 : Cond := .code yX9_reads cX9_reads 6 (some .boolean)
noncomputable abbrev ww_844 : Cond := .methodLink RX9 291 yX9_begins
noncomputable abbrev ww_845 : Cond := .instanceMethod yX9_begins
noncomputable abbrev ww_846 : Cond := .selects RX9 yX9_begins yX9_begins
noncomputable abbrev ww_847 : Cond := .code yX9_begins cX9_begins 1 none
noncomputable abbrev ww_848 : Cond := .methodLink RX9 294 yX9_readsGuest
noncomputable abbrev ww_849 : Cond := .instanceMethod yX9_readsGuest
noncomputable abbrev ww_850 : Cond := .selects RX9 yX9_readsGuest yX9_readsGuest
noncomputable abbrev ww_851 : Cond := .code yX9_readsGuest cX9_readsGuest 4 (some .boolean)
noncomputable abbrev ww_852 : Cond := .methodLink RX9 297 yX9_readsOne
noncomputable abbrev ww_853 : Cond := .instanceMethod yX9_readsOne
noncomputable abbrev ww_854 : Cond := .selects RX9 yX9_readsOne yX9_readsOne
noncomputable abbrev ww_855 : Cond := .code yX9_readsOne cX9_readsOne 3 (some .boolean)
noncomputable abbrev ww_856 : Cond := .methodLink RX9 300 yX9_readsSnow
noncomputable abbrev ww_857 : Cond := .instanceMethod yX9_readsSnow
noncomputable abbrev ww_858 : Cond := .selects RX9 yX9_readsSnow yX9_readsSnow
noncomputable abbrev ww_859 : Cond := .code yX9_readsSnow cX9_readsSnow 1 (some .boolean)
noncomputable abbrev ww_860 : Cond := .methodLink RX9 303 yX9_readsTastes
noncomputable abbrev ww_861 : Cond := .instanceMethod yX9_readsTastes
noncomputable abbrev ww_862 : Cond := .selects RX9 yX9_readsTastes yX9_readsTastes
noncomputable abbrev ww_863 : Cond := .code yX9_readsTastes cX9_readsTastes 1 (some .boolean)
noncomputable abbrev ww_864 : Cond := .methodLink RX9 306 yX9_shifts
noncomputable abbrev ww_865 : Cond := .static yX9_shifts
noncomputable abbrev ww_866 : Cond := .code yX9_shifts cX9_shifts 3 none
noncomputable abbrev ww_867 : Cond := .methodLink RX9 310 yX9_needsGuest
noncomputable abbrev ww_868 : Cond := .instanceMethod yX9_needsGuest
noncomputable abbrev ww_869 : Cond := .selects RX9 yX9_needsGuest yX9_needsGuest
noncomputable abbrev ww_870 : Cond := .code yX9_needsGuest cX9_needsGuest 1 (some .boolean)
noncomputable abbrev ww_871 : Cond := .fieldLink RX9 322 "LastCookModel" "done" "I"
noncomputable abbrev ww_872 : Cond := .methodLink RX9 316 yX9_readsAll
noncomputable abbrev ww_873 : Cond := .instanceMethod yX9_readsAll
noncomputable abbrev ww_874 : Cond := .selects RX9 yX9_readsAll yX9_readsAll
noncomputable abbrev ww_875 : Cond := .code yX9_readsAll cX9_readsAll 2 (some .boolean)
noncomputable abbrev ww_876 : Cond := .methodLink RX9 319 yX9_lays
noncomputable abbrev ww_877 : Cond := .instanceMethod yX9_lays
noncomputable abbrev ww_878 : Cond := .selects RX9 yX9_lays yX9_lays
noncomputable abbrev ww_879 : Cond := .code yX9_lays cX9_lays 2 none
noncomputable abbrev ww_880 : Cond := .methodLink RX9 325 yX9_readsLine
noncomputable abbrev ww_881 : Cond := .instanceMethod yX9_readsLine
noncomputable abbrev ww_882 : Cond := .selects RX9 yX9_readsLine yX9_readsLine
noncomputable abbrev ww_883 : Cond := .code yX9_readsLine cX9_readsLine 3 (some .boolean)
noncomputable abbrev ww_884 : Cond := .methodLink RX9 328 yX9_laysLines
noncomputable abbrev ww_885 : Cond := .instanceMethod yX9_laysLines
noncomputable abbrev ww_886 : Cond := .selects RX9 yX9_laysLines yX9_laysLines
noncomputable abbrev ww_887 : Cond := .code yX9_laysLines cX9_laysLines 4 none
noncomputable abbrev ww_888 : Cond := .methodLink RX9 332 yX9_isIn
noncomputable abbrev ww_889 : Cond := .instanceMethod yX9_isIn
noncomputable abbrev ww_890 : Cond := .selects RX9 yX9_isIn yX9_isIn
noncomputable abbrev ww_891 : Cond := .code yX9_isIn cX9_isIn 2 (some .boolean)
noncomputable abbrev ww_892 : Cond := .methodLink RX9 335 Lib.Math.min.name
noncomputable abbrev ww_893 : Cond := .methodLink RX9 341 yX9_greats
noncomputable abbrev ww_894 : Cond := .instanceMethod yX9_greats
noncomputable abbrev ww_895 : Cond := .selects RX9 yX9_greats yX9_greats
noncomputable abbrev ww_896 : Cond := .code yX9_greats cX9_greats 3 (some .int)
noncomputable abbrev ww_897 : Cond := .methodLink RX9 350 Lib.Math.max.name
noncomputable abbrev ww_898 : Cond := .methodLink RX9 344 yX9_paceOf
noncomputable abbrev ww_899 : Cond := .instanceMethod yX9_paceOf
noncomputable abbrev ww_900 : Cond := .selects RX9 yX9_paceOf yX9_paceOf
noncomputable abbrev ww_901 : Cond := .code yX9_paceOf cX9_paceOf 2 (some .int)
noncomputable abbrev ww_902 : Cond := .methodLink RX9 347 yX9_snowOf
noncomputable abbrev ww_903 : Cond := .instanceMethod yX9_snowOf
noncomputable abbrev ww_904 : Cond := .selects RX9 yX9_snowOf yX9_snowOf
noncomputable abbrev ww_905 : Cond := .code yX9_snowOf cX9_snowOf 2 (some .int)
noncomputable abbrev ww_906 : Cond := .methodLink RX9 353 yX9_holds
noncomputable abbrev ww_907 : Cond := .instanceMethod yX9_holds
noncomputable abbrev ww_908 : Cond := .selects RX9 yX9_holds yX9_holds
noncomputable abbrev ww_909 : Cond := .code yX9_holds cX9_holds 4 (some .boolean)
noncomputable abbrev ww_910 : Cond := .methodLink RX9 356 yX9_worked
noncomputable abbrev ww_911 : Cond := .instanceMethod yX9_worked
noncomputable abbrev ww_912 : Cond := .selects RX9 yX9_worked yX9_worked
noncomputable abbrev ww_913 : Cond := .code yX9_worked cX9_worked 6 (some .int)
noncomputable abbrev ww_914 : Cond := .methodLink RX9 359 yX9_between
noncomputable abbrev ww_915 : Cond := .static yX9_between
noncomputable abbrev ww_916 : Cond := .code yX9_between cX9_between 3 (some .int)
noncomputable abbrev ww_917 : Cond := .fieldLink RX9 369 "LastCookModel" "cameNow" "I"
noncomputable abbrev ww_918 : Cond := .methodLink RX9 363 yX9_onRoad
noncomputable abbrev ww_919 : Cond := .instanceMethod yX9_onRoad
noncomputable abbrev ww_920 : Cond := .selects RX9 yX9_onRoad yX9_onRoad
noncomputable abbrev ww_921 : Cond := .code yX9_onRoad cX9_onRoad 3 (some .int)
noncomputable abbrev ww_922 : Cond := .methodLink RX9 366 yX9_bits
noncomputable abbrev ww_923 : Cond := .static yX9_bits
noncomputable abbrev ww_924 : Cond := .code yX9_bits cX9_bits 3 (some .int)
noncomputable abbrev ww_925 : Cond := .methodLink RX9 372 yX9_goes
noncomputable abbrev ww_926 : Cond := .instanceMethod yX9_goes
noncomputable abbrev ww_927 : Cond := .selects RX9 yX9_goes yX9_goes
noncomputable abbrev ww_928 : Cond := .code yX9_goes cX9_goes 5 none
noncomputable abbrev ww_929 : Cond := .methodLink RX9 375 yX9_cookNow
noncomputable abbrev ww_930 : Cond := .instanceMethod yX9_cookNow
noncomputable abbrev ww_931 : Cond := .selects RX9 yX9_cookNow yX9_cookNow
noncomputable abbrev ww_932 : Cond := .code yX9_cookNow cX9_cookNow 4 (some .int)
noncomputable abbrev ww_933 : Cond := .methodLink RX9 378 yX9_isEatenBy
noncomputable abbrev ww_934 : Cond := .instanceMethod yX9_isEatenBy
noncomputable abbrev ww_935 : Cond := .selects RX9 yX9_isEatenBy yX9_isEatenBy
noncomputable abbrev ww_936 : Cond := .code yX9_isEatenBy cX9_isEatenBy 3 none
noncomputable abbrev ww_937 : Cond := .methodLink RX9 381 yX9_isGuest
noncomputable abbrev ww_938 : Cond := .instanceMethod yX9_isGuest
noncomputable abbrev ww_939 : Cond := .selects RX9 yX9_isGuest yX9_isGuest
noncomputable abbrev ww_940 : Cond := .code yX9_isGuest cX9_isGuest 2 (some .boolean)
noncomputable abbrev ww_941 : Cond := .methodLink RX9 384 yX9_copies
noncomputable abbrev ww_942 : Cond := .static yX9_copies
noncomputable abbrev ww_943 : Cond := .code yX9_copies cX9_copies 5 none
noncomputable abbrev ww_944 : Cond := .methodLink RX9 388 yX9_isOnRoad
noncomputable abbrev ww_945 : Cond := .instanceMethod yX9_isOnRoad
noncomputable abbrev ww_946 : Cond := .selects RX9 yX9_isOnRoad yX9_isOnRoad
noncomputable abbrev ww_947 : Cond := .code yX9_isOnRoad cX9_isOnRoad 2 (some .boolean)
noncomputable abbrev ww_948 : Cond := .methodLink RX9 391 yX9_keeps
noncomputable abbrev ww_949 : Cond := .instanceMethod yX9_keeps
noncomputable abbrev ww_950 : Cond := .selects RX9 yX9_keeps yX9_keeps
noncomputable abbrev ww_951 : Cond := .code yX9_keeps cX9_keeps 2 none
noncomputable abbrev ww_952 : Cond := .methodLink RX9 394 yX9_wheels
noncomputable abbrev ww_953 : Cond := .instanceMethod yX9_wheels
noncomputable abbrev ww_954 : Cond := .selects RX9 yX9_wheels yX9_wheels
noncomputable abbrev ww_955 : Cond := .code yX9_wheels cX9_wheels 3 none
noncomputable abbrev ww_956 : Cond := .methodLink RX9 397 yX9_runs
noncomputable abbrev ww_957 : Cond := .instanceMethod yX9_runs
noncomputable abbrev ww_958 : Cond := .selects RX9 yX9_runs yX9_runs
noncomputable abbrev ww_959 : Cond := .code yX9_runs cX9_runs 3 none
noncomputable abbrev ww_960 : Cond := .methodLink RX9 400 yX9_canHire
noncomputable abbrev ww_961 : Cond := .instanceMethod yX9_canHire
noncomputable abbrev ww_962 : Cond := .selects RX9 yX9_canHire yX9_canHire
noncomputable abbrev ww_963 : Cond := .code yX9_canHire cX9_canHire 3 (some .boolean)
noncomputable abbrev ww_964 : Cond := .methodLink RX9 403 yX9_passes
noncomputable abbrev ww_965 : Cond := .instanceMethod yX9_passes
noncomputable abbrev ww_966 : Cond := .selects RX9 yX9_passes yX9_passes
noncomputable abbrev ww_967 : Cond := .code yX9_passes cX9_passes 4 (some .int)
noncomputable abbrev ww_968 : Cond := .methodLink RX9 406 yX9_isDone
noncomputable abbrev ww_969 : Cond := .instanceMethod yX9_isDone
noncomputable abbrev ww_970 : Cond := .selects RX9 yX9_isDone yX9_isDone
noncomputable abbrev ww_971 : Cond := .code yX9_isDone cX9_isDone 4 (some .boolean)
noncomputable abbrev ww_972 : Cond := .fieldLink RX9 409 "LastCookModel" "cookThen" "I"
noncomputable abbrev ww_973 : Cond := .fieldLink RX9 412 "LastCookModel" "tasteThen" "I"
noncomputable abbrev ww_974 : Cond := .methodLink RX9 415 yX9_eats
noncomputable abbrev ww_975 : Cond := .instanceMethod yX9_eats
noncomputable abbrev ww_976 : Cond := .selects RX9 yX9_eats yX9_eats
noncomputable abbrev ww_977 : Cond := .code yX9_eats cX9_eats 3 (some .int)
noncomputable abbrev ww_978 : Cond := .methodLink RX9 418 yX9_laysPlaces
noncomputable abbrev ww_979 : Cond := .instanceMethod yX9_laysPlaces
noncomputable abbrev ww_980 : Cond := .selects RX9 yX9_laysPlaces yX9_laysPlaces
noncomputable abbrev ww_981 : Cond := .code yX9_laysPlaces cX9_laysPlaces 6 none
noncomputable abbrev ww_982 : Cond := .methodLink RX9 421 yX9_laysYards
noncomputable abbrev ww_983 : Cond := .instanceMethod yX9_laysYards
noncomputable abbrev ww_984 : Cond := .selects RX9 yX9_laysYards yX9_laysYards
noncomputable abbrev ww_985 : Cond := .code yX9_laysYards cX9_laysYards 3 none
noncomputable abbrev ww_986 : Cond := .methodLink RX9 424 yX9_isAsSeen
noncomputable abbrev ww_987 : Cond := .instanceMethod yX9_isAsSeen
noncomputable abbrev ww_988 : Cond := .selects RX9 yX9_isAsSeen yX9_isAsSeen
noncomputable abbrev ww_989 : Cond := .code yX9_isAsSeen cX9_isAsSeen 3 (some .boolean)
noncomputable abbrev ww_990 : Cond := .methodLink RX9 427 yX9_who
noncomputable abbrev ww_991 : Cond := .instanceMethod yX9_who
noncomputable abbrev ww_992 : Cond := .selects RX9 yX9_who yX9_who
noncomputable abbrev ww_993 : Cond := .code yX9_who cX9_who 3 (some .int)
noncomputable abbrev ww_994 : Cond := .constantLong RX9 430 (10)
noncomputable abbrev ww_995 : Cond := .constantLong RX9 432 (1000000)
noncomputable abbrev ww_996 : Cond := .methodLink RX9 434 yX9_getsBy
noncomputable abbrev ww_997 : Cond := .static yX9_getsBy
noncomputable abbrev ww_998 : Cond := .code yX9_getsBy cX9_getsBy 5 (some .int)
noncomputable abbrev ww_999 : Cond := .fieldLink RX9 438 "LastCookModel" "g" "J"
noncomputable abbrev ww_1000 : Cond := .constantLong RX9 441 (1103515245)
noncomputable abbrev ww_1001 : Cond := .constantLong RX9 443 (12345)
noncomputable abbrev ww_1002 : Cond := .constantLong RX9 445 (2147483648)
noncomputable abbrev ww_1003 : Cond := .constantLong RX9 447 (65536)
noncomputable abbrev ww_1004 : Cond := .methodLink RX9 449 yX9_draws
noncomputable abbrev ww_1005 : Cond := .instanceMethod yX9_draws
noncomputable abbrev ww_1006 : Cond := .selects RX9 yX9_draws yX9_draws
noncomputable abbrev ww_1007 : Cond := .code yX9_draws cX9_draws 2 (some .int)
noncomputable abbrev ww_1008 : Cond := .constant RX9 452 (-100000)
noncomputable abbrev ww_1009 : Cond := .methodLink RX9 453 yX9_livesMinute
noncomputable abbrev ww_1010 : Cond := .instanceMethod yX9_livesMinute
noncomputable abbrev ww_1011 : Cond := .selects RX9 yX9_livesMinute yX9_livesMinute
noncomputable abbrev ww_1012 : Cond := .code yX9_livesMinute cX9_livesMinute 4 none
noncomputable abbrev ww_1013 : Cond := .methodLink RX9 456 yX9_laysSeen
noncomputable abbrev ww_1014 : Cond := .instanceMethod yX9_laysSeen
noncomputable abbrev ww_1015 : Cond := .selects RX9 yX9_laysSeen yX9_laysSeen
noncomputable abbrev ww_1016 : Cond := .code yX9_laysSeen cX9_laysSeen 4 none
noncomputable abbrev ww_1017 : Cond := .classLink RL 13 "java/util/NoSuchElementException"
noncomputable abbrev ww_1018 : Cond := .methodLink RL 7 yX8_rests
noncomputable abbrev ww_1019 : Cond := .instanceMethod yX8_rests
noncomputable abbrev ww_1020 : Cond := .selects RX8 yX8_rests yX8_rests
noncomputable abbrev ww_1021 : Cond := .code yX8_rests cX8_rests 9 (some .int)
noncomputable abbrev ww_1022 : Cond := .classLink RL 8 RX8
noncomputable abbrev ww_1023 : Cond := .instantiable RX8 11
noncomputable abbrev ww_1024 : Cond := .classLink RL 16 RX9
noncomputable abbrev ww_1025 : Cond := .instantiable RX9 58
noncomputable abbrev ww_1026 : Cond := .constantLong RL 19 (4294967295)
noncomputable abbrev ww_1027 : Cond := .methodLink RL 15 yX8_init
noncomputable abbrev ww_1028 : Cond := .instanceMethod yX8_init
noncomputable abbrev ww_1029 : Cond := .code yX8_init cX8_init 2 none
noncomputable abbrev ww_1030 : Cond := .methodLink RL 18 yX9_init
noncomputable abbrev ww_1031 : Cond := .instanceMethod yX9_init
noncomputable abbrev ww_1032 : Cond := .code yX9_init cX9_init 1 none
noncomputable abbrev ww_1033 : Cond := .methodLink RL 21 yX8_feed
noncomputable abbrev ww_1034 : Cond := .instanceMethod yX8_feed
noncomputable abbrev ww_1035 : Cond := .selects RX8 yX8_feed yX8_feed
noncomputable abbrev ww_1036 : Cond := .code yX8_feed cX8_feed 7 (some .int)
noncomputable abbrev ww_1037 : Cond := .methodLink RL 25 yX9_feed
noncomputable abbrev ww_1038 : Cond := .instanceMethod yX9_feed
noncomputable abbrev ww_1039 : Cond := .selects RX9 yX9_feed yX9_feed
noncomputable abbrev ww_1040 : Cond := .code yX9_feed cX9_feed 11 (some .int)
noncomputable abbrev ww_1041 : Cond := .methodLink RL 26 yX8_supper
noncomputable abbrev ww_1042 : Cond := .instanceMethod yX8_supper
noncomputable abbrev ww_1043 : Cond := .selects RX8 yX8_supper yX8_supper
noncomputable abbrev ww_1044 : Cond := .code yX8_supper cX8_supper 3 (some .int)
noncomputable abbrev ww_1045 : Cond := .methodLink RL 30 yX9_supper
noncomputable abbrev ww_1046 : Cond := .instanceMethod yX9_supper
noncomputable abbrev ww_1047 : Cond := .selects RX9 yX9_supper yX9_supper
noncomputable abbrev ww_1048 : Cond := .code yX9_supper cX9_supper 2 (some .int)
noncomputable abbrev ww_1049 : Cond := .methodLink RL 31 yX8_night
noncomputable abbrev ww_1050 : Cond := .instanceMethod yX8_night
noncomputable abbrev ww_1051 : Cond := .selects RX8 yX8_night yX8_night
noncomputable abbrev ww_1052 : Cond := .code yX8_night cX8_night 3 (some .int)
noncomputable abbrev ww_1053 : Cond := .methodLink RL 34 yX9_night
noncomputable abbrev ww_1054 : Cond := .instanceMethod yX9_night
noncomputable abbrev ww_1055 : Cond := .selects RX9 yX9_night yX9_night
noncomputable abbrev ww_1056 : Cond := .code yX9_night cX9_night 1 (some .int)
noncomputable abbrev ww_1057 : Cond := .methodLink RL 35 yX8_guest
noncomputable abbrev ww_1058 : Cond := .instanceMethod yX8_guest
noncomputable abbrev ww_1059 : Cond := .selects RX8 yX8_guest yX8_guest
noncomputable abbrev ww_1060 : Cond := .code yX8_guest cX8_guest 3 (some .int)
noncomputable abbrev ww_1061 : Cond := .methodLink RL 39 yX9_guest
noncomputable abbrev ww_1062 : Cond := .instanceMethod yX9_guest
noncomputable abbrev ww_1063 : Cond := .selects RX9 yX9_guest yX9_guest
noncomputable abbrev ww_1064 : Cond := .code yX9_guest cX9_guest 3 (some .int)
noncomputable abbrev ww_1065 : Cond := .methodLink RL 40 yX8_wheel
noncomputable abbrev ww_1066 : Cond := .instanceMethod yX8_wheel
noncomputable abbrev ww_1067 : Cond := .selects RX8 yX8_wheel yX8_wheel
noncomputable abbrev ww_1068 : Cond := .code yX8_wheel cX8_wheel 3 (some .int)
noncomputable abbrev ww_1069 : Cond := .methodLink RL 43 yX9_wheel
noncomputable abbrev ww_1070 : Cond := .instanceMethod yX9_wheel
noncomputable abbrev ww_1071 : Cond := .selects RX9 yX9_wheel yX9_wheel
noncomputable abbrev ww_1072 : Cond := .code yX9_wheel cX9_wheel 3 (some .int)
noncomputable abbrev ww_1073 : Cond := .methodLink RL 44 yX8_run
noncomputable abbrev ww_1074 : Cond := .instanceMethod yX8_run
noncomputable abbrev ww_1075 : Cond := .selects RX8 yX8_run yX8_run
noncomputable abbrev ww_1076 : Cond := .code yX8_run cX8_run 3 (some .int)
noncomputable abbrev ww_1077 : Cond := .methodLink RL 47 yX9_run
noncomputable abbrev ww_1078 : Cond := .instanceMethod yX9_run
noncomputable abbrev ww_1079 : Cond := .selects RX9 yX9_run yX9_run
noncomputable abbrev ww_1080 : Cond := .code yX9_run cX9_run 3 (some .int)
noncomputable abbrev ww_1081 : Cond := .methodLink RL 48 yX8_hire
noncomputable abbrev ww_1082 : Cond := .instanceMethod yX8_hire
noncomputable abbrev ww_1083 : Cond := .selects RX8 yX8_hire yX8_hire
noncomputable abbrev ww_1084 : Cond := .code yX8_hire cX8_hire 3 (some .boolean)
noncomputable abbrev ww_1085 : Cond := .methodLink RL 52 yX9_hire
noncomputable abbrev ww_1086 : Cond := .instanceMethod yX9_hire
noncomputable abbrev ww_1087 : Cond := .selects RX9 yX9_hire yX9_hire
noncomputable abbrev ww_1088 : Cond := .code yX9_hire cX9_hire 3 (some .boolean)
noncomputable abbrev ww_1089 : Cond := .methodLink RL 53 yX8_minute
noncomputable abbrev ww_1090 : Cond := .instanceMethod yX8_minute
noncomputable abbrev ww_1091 : Cond := .selects RX8 yX8_minute yX8_minute
noncomputable abbrev ww_1092 : Cond := .code yX8_minute cX8_minute 1 (some .int)
noncomputable abbrev ww_1093 : Cond := .methodLink RL 56 yX9_minute
noncomputable abbrev ww_1094 : Cond := .instanceMethod yX9_minute
noncomputable abbrev ww_1095 : Cond := .selects RX9 yX9_minute yX9_minute
noncomputable abbrev ww_1096 : Cond := .code yX9_minute cX9_minute 1 (some .int)
noncomputable abbrev ww_1097 : Cond := .methodLink RL 57 yX8_undo
noncomputable abbrev ww_1098 : Cond := .instanceMethod yX8_undo
noncomputable abbrev ww_1099 : Cond := .selects RX8 yX8_undo yX8_undo
noncomputable abbrev ww_1100 : Cond := .code yX8_undo cX8_undo 1 (some .boolean)
noncomputable abbrev ww_1101 : Cond := .methodLink RL 61 yX9_undo
noncomputable abbrev ww_1102 : Cond := .instanceMethod yX9_undo
noncomputable abbrev ww_1103 : Cond := .selects RX9 yX9_undo yX9_undo
noncomputable abbrev ww_1104 : Cond := .code yX9_undo cX9_undo 1 (some .boolean)
noncomputable abbrev ww_1105 : Cond := .methodLink RL 62 yX8_judged
noncomputable abbrev ww_1106 : Cond := .instanceMethod yX8_judged
noncomputable abbrev ww_1107 : Cond := .selects RX8 yX8_judged yX8_judged
noncomputable abbrev ww_1108 : Cond := .code yX8_judged cX8_judged 5 (some .int)
noncomputable abbrev ww_1109 : Cond := .methodLink RL 66 yX9_judged
noncomputable abbrev ww_1110 : Cond := .instanceMethod yX9_judged
noncomputable abbrev ww_1111 : Cond := .selects RX9 yX9_judged yX9_judged
noncomputable abbrev ww_1112 : Cond := .code yX9_judged cX9_judged 5 (some .int)
noncomputable abbrev ww_1113 : Cond := .methodLink RL 67 yX8_when
noncomputable abbrev ww_1114 : Cond := .instanceMethod yX8_when
noncomputable abbrev ww_1115 : Cond := .selects RX8 yX8_when yX8_when
noncomputable abbrev ww_1116 : Cond := .code yX8_when cX8_when 1 (some .int)
noncomputable abbrev ww_1117 : Cond := .methodLink RL 70 yX9_when
noncomputable abbrev ww_1118 : Cond := .instanceMethod yX9_when
noncomputable abbrev ww_1119 : Cond := .selects RX9 yX9_when yX9_when
noncomputable abbrev ww_1120 : Cond := .code yX9_when cX9_when 1 (some .int)
noncomputable abbrev ww_1121 : Cond := .methodLink RL 71 yX8_cook
noncomputable abbrev ww_1122 : Cond := .instanceMethod yX8_cook
noncomputable abbrev ww_1123 : Cond := .selects RX8 yX8_cook yX8_cook
noncomputable abbrev ww_1124 : Cond := .code yX8_cook cX8_cook 1 (some .int)
noncomputable abbrev ww_1125 : Cond := .methodLink RL 74 yX9_cook
noncomputable abbrev ww_1126 : Cond := .instanceMethod yX9_cook
noncomputable abbrev ww_1127 : Cond := .selects RX9 yX9_cook yX9_cook
noncomputable abbrev ww_1128 : Cond := .code yX9_cook cX9_cook 1 (some .int)
noncomputable abbrev ww_1129 : Cond := .methodLink RL 75 yX8_order
noncomputable abbrev ww_1130 : Cond := .instanceMethod yX8_order
noncomputable abbrev ww_1131 : Cond := .selects RX8 yX8_order yX8_order
noncomputable abbrev ww_1132 : Cond := .code yX8_order cX8_order 3 (some .int)
noncomputable abbrev ww_1133 : Cond := .methodLink RL 78 yX9_order
noncomputable abbrev ww_1134 : Cond := .instanceMethod yX9_order
noncomputable abbrev ww_1135 : Cond := .selects RX9 yX9_order yX9_order
noncomputable abbrev ww_1136 : Cond := .code yX9_order cX9_order 3 (some .int)
noncomputable abbrev ww_1137 : Cond := .methodLink RL 79 yX8_later
noncomputable abbrev ww_1138 : Cond := .instanceMethod yX8_later
noncomputable abbrev ww_1139 : Cond := .selects RX8 yX8_later yX8_later
noncomputable abbrev ww_1140 : Cond := .code yX8_later cX8_later 3 (some .int)
noncomputable abbrev ww_1141 : Cond := .methodLink RL 82 yX9_later
noncomputable abbrev ww_1142 : Cond := .instanceMethod yX9_later
noncomputable abbrev ww_1143 : Cond := .selects RX9 yX9_later yX9_later
noncomputable abbrev ww_1144 : Cond := .code yX9_later cX9_later 4 (some .int)
noncomputable abbrev ww_1145 : Cond := .methodLink RL 83 yX8_nights
noncomputable abbrev ww_1146 : Cond := .instanceMethod yX8_nights
noncomputable abbrev ww_1147 : Cond := .selects RX8 yX8_nights yX8_nights
noncomputable abbrev ww_1148 : Cond := .code yX8_nights cX8_nights 5 (some .int)
noncomputable abbrev ww_1149 : Cond := .methodLink RL 86 yX9_nights
noncomputable abbrev ww_1150 : Cond := .instanceMethod yX9_nights
noncomputable abbrev ww_1151 : Cond := .selects RX9 yX9_nights yX9_nights
noncomputable abbrev ww_1152 : Cond := .code yX9_nights cX9_nights 5 (some .int)
noncomputable abbrev ww_1153 : Cond := .methodLink RL 87 yX8_delay
noncomputable abbrev ww_1154 : Cond := .instanceMethod yX8_delay
noncomputable abbrev ww_1155 : Cond := .selects RX8 yX8_delay yX8_delay
noncomputable abbrev ww_1156 : Cond := .code yX8_delay cX8_delay 3 (some .int)
noncomputable abbrev ww_1157 : Cond := .methodLink RL 90 yX9_delay
noncomputable abbrev ww_1158 : Cond := .instanceMethod yX9_delay
noncomputable abbrev ww_1159 : Cond := .selects RX9 yX9_delay yX9_delay
noncomputable abbrev ww_1160 : Cond := .code yX9_delay cX9_delay 3 (some .int)
noncomputable abbrev ww_1161 : Cond := .methodLink RL 91 yX8_spare
noncomputable abbrev ww_1162 : Cond := .instanceMethod yX8_spare
noncomputable abbrev ww_1163 : Cond := .selects RX8 yX8_spare yX8_spare
noncomputable abbrev ww_1164 : Cond := .code yX8_spare cX8_spare 4 (some .int)
noncomputable abbrev ww_1165 : Cond := .methodLink RL 94 yX9_spare
noncomputable abbrev ww_1166 : Cond := .instanceMethod yX9_spare
noncomputable abbrev ww_1167 : Cond := .selects RX9 yX9_spare yX9_spare
noncomputable abbrev ww_1168 : Cond := .code yX9_spare cX9_spare 3 (some .int)
noncomputable abbrev ww_1169 : Cond := .methodLink RL 95 yX8_best
noncomputable abbrev ww_1170 : Cond := .instanceMethod yX8_best
noncomputable abbrev ww_1171 : Cond := .selects RX8 yX8_best yX8_best
noncomputable abbrev ww_1172 : Cond := .code yX8_best cX8_best 6 (some .int)
noncomputable abbrev ww_1173 : Cond := .methodLink RL 98 yX9_best
noncomputable abbrev ww_1174 : Cond := .instanceMethod yX9_best
noncomputable abbrev ww_1175 : Cond := .selects RX9 yX9_best yX9_best
noncomputable abbrev ww_1176 : Cond := .code yX9_best cX9_best 6 (some .int)
noncomputable abbrev ww_1177 : Cond := .methodLink RL 99 yX8_excuse
noncomputable abbrev ww_1178 : Cond := .instanceMethod yX8_excuse
noncomputable abbrev ww_1179 : Cond := .selects RX8 yX8_excuse yX8_excuse
noncomputable abbrev ww_1180 : Cond := .code yX8_excuse cX8_excuse 4 (some .int)
noncomputable abbrev ww_1181 : Cond := .methodLink RL 102 yX9_excuse
noncomputable abbrev ww_1182 : Cond := .instanceMethod yX9_excuse
noncomputable abbrev ww_1183 : Cond := .selects RX9 yX9_excuse yX9_excuse
noncomputable abbrev ww_1184 : Cond := .code yX9_excuse cX9_excuse 4 (some .int)
noncomputable abbrev ww_1185 : Cond := .methodLink RL 103 yX8_meets
noncomputable abbrev ww_1186 : Cond := .instanceMethod yX8_meets
noncomputable abbrev ww_1187 : Cond := .selects RX8 yX8_meets yX8_meets
noncomputable abbrev ww_1188 : Cond := .code yX8_meets cX8_meets 4 (some .int)
noncomputable abbrev ww_1189 : Cond := .methodLink RL 106 yX9_meets
noncomputable abbrev ww_1190 : Cond := .instanceMethod yX9_meets
noncomputable abbrev ww_1191 : Cond := .selects RX9 yX9_meets yX9_meets
noncomputable abbrev ww_1192 : Cond := .code yX9_meets cX9_meets 4 (some .int)
noncomputable abbrev ww_1193 : Cond := .methodLink RL 107 yX8_near
noncomputable abbrev ww_1194 : Cond := .instanceMethod yX8_near
noncomputable abbrev ww_1195 : Cond := .selects RX8 yX8_near yX8_near
noncomputable abbrev ww_1196 : Cond := .code yX8_near cX8_near 2 (some .int)
noncomputable abbrev ww_1197 : Cond := .methodLink RL 110 yX9_near
noncomputable abbrev ww_1198 : Cond := .instanceMethod yX9_near
noncomputable abbrev ww_1199 : Cond := .selects RX9 yX9_near yX9_near
noncomputable abbrev ww_1200 : Cond := .code yX9_near cX9_near 4 (some .int)
noncomputable abbrev ww_1201 : Cond := .methodLink RL 111 yX8_with
noncomputable abbrev ww_1202 : Cond := .instanceMethod yX8_with
noncomputable abbrev ww_1203 : Cond := .selects RX8 yX8_with yX8_with
noncomputable abbrev ww_1204 : Cond := .code yX8_with cX8_with 3 (some .int)
noncomputable abbrev ww_1205 : Cond := .methodLink RL 114 yX9_with
noncomputable abbrev ww_1206 : Cond := .instanceMethod yX9_with
noncomputable abbrev ww_1207 : Cond := .selects RX9 yX9_with yX9_with
noncomputable abbrev ww_1208 : Cond := .code yX9_with cX9_with 4 (some .int)
noncomputable abbrev ww_1209 : Cond := .methodLink RL 115 yX8_boy
noncomputable abbrev ww_1210 : Cond := .instanceMethod yX8_boy
noncomputable abbrev ww_1211 : Cond := .selects RX8 yX8_boy yX8_boy
noncomputable abbrev ww_1212 : Cond := .code yX8_boy cX8_boy 2 (some .int)
noncomputable abbrev ww_1213 : Cond := .methodLink RL 118 yX9_boy
noncomputable abbrev ww_1214 : Cond := .instanceMethod yX9_boy
noncomputable abbrev ww_1215 : Cond := .selects RX9 yX9_boy yX9_boy
noncomputable abbrev ww_1216 : Cond := .code yX9_boy cX9_boy 3 (some .int)
noncomputable abbrev ww_1217 : Cond := .methodLink RL 119 yX8_held
noncomputable abbrev ww_1218 : Cond := .instanceMethod yX8_held
noncomputable abbrev ww_1219 : Cond := .selects RX8 yX8_held yX8_held
noncomputable abbrev ww_1220 : Cond := .code yX8_held cX8_held 1 (some .int)
noncomputable abbrev ww_1221 : Cond := .methodLink RL 122 yX9_held
noncomputable abbrev ww_1222 : Cond := .instanceMethod yX9_held
noncomputable abbrev ww_1223 : Cond := .selects RX9 yX9_held yX9_held
noncomputable abbrev ww_1224 : Cond := .code yX9_held cX9_held 4 (some .int)
noncomputable abbrev ww_1225 : Cond := .methodLink RL 123 yX8_fair
noncomputable abbrev ww_1226 : Cond := .instanceMethod yX8_fair
noncomputable abbrev ww_1227 : Cond := .selects RX8 yX8_fair yX8_fair
noncomputable abbrev ww_1228 : Cond := .code yX8_fair cX8_fair 4 (some .int)
noncomputable abbrev ww_1229 : Cond := .methodLink RL 126 yX9_fair
noncomputable abbrev ww_1230 : Cond := .instanceMethod yX9_fair
noncomputable abbrev ww_1231 : Cond := .selects RX9 yX9_fair yX9_fair
noncomputable abbrev ww_1232 : Cond := .code yX9_fair cX9_fair 4 (some .int)
noncomputable abbrev ww_1233 : Cond := .methodLink RL 127 yX8_see
noncomputable abbrev ww_1234 : Cond := .instanceMethod yX8_see
noncomputable abbrev ww_1235 : Cond := .selects RX8 yX8_see yX8_see
noncomputable abbrev ww_1236 : Cond := .code yX8_see cX8_see 4 (some .boolean)
noncomputable abbrev ww_1237 : Cond := .methodLink RL 131 yX9_see
noncomputable abbrev ww_1238 : Cond := .instanceMethod yX9_see
noncomputable abbrev ww_1239 : Cond := .selects RX9 yX9_see yX9_see
noncomputable abbrev ww_1240 : Cond := .code yX9_see cX9_see 4 (some .boolean)
noncomputable abbrev ww_1241 : Cond := .methodLink RL 132 yX8_who
noncomputable abbrev ww_1242 : Cond := .instanceMethod yX8_who
noncomputable abbrev ww_1243 : Cond := .selects RX8 yX8_who yX8_who
noncomputable abbrev ww_1244 : Cond := .code yX8_who cX8_who 1 (some .int)
noncomputable abbrev ww_1245 : Cond := .methodLink RL 135 yX9_who
noncomputable abbrev ww_1246 : Cond := .methodLink RL 136 yX8_ask
noncomputable abbrev ww_1247 : Cond := .instanceMethod yX8_ask
noncomputable abbrev ww_1248 : Cond := .selects RX8 yX8_ask yX8_ask
noncomputable abbrev ww_1249 : Cond := .code yX8_ask cX8_ask 10 (some .int)
noncomputable abbrev ww_1250 : Cond := .methodLink RL 139 yX9_ask
noncomputable abbrev ww_1251 : Cond := .instanceMethod yX9_ask
noncomputable abbrev ww_1252 : Cond := .selects RX9 yX9_ask yX9_ask
noncomputable abbrev ww_1253 : Cond := .code yX9_ask cX9_ask 9 (some .int)
noncomputable abbrev ww_1254 : Cond := .methodLink RL 140 yX8_chance
noncomputable abbrev ww_1255 : Cond := .instanceMethod yX8_chance
noncomputable abbrev ww_1256 : Cond := .selects RX8 yX8_chance yX8_chance
noncomputable abbrev ww_1257 : Cond := .code yX8_chance cX8_chance 7 (some .int)
noncomputable abbrev ww_1258 : Cond := .methodLink RL 144 yX9_chance
noncomputable abbrev ww_1259 : Cond := .instanceMethod yX9_chance
noncomputable abbrev ww_1260 : Cond := .selects RX9 yX9_chance yX9_chance
noncomputable abbrev ww_1261 : Cond := .code yX9_chance cX9_chance 14 (some .int)
noncomputable abbrev ww_1262 : Cond := .methodLink RL 145 yL_rests
noncomputable abbrev ww_1263 : Cond := .static yL_rests
noncomputable abbrev ww_1264 : Cond := .initialized RL
noncomputable abbrev ww_1265 : Cond := .codeWith yL_rests cL_rests 7 (some .int) [(0, 14, 17, 13)]
noncomputable abbrev ww_1266 : Cond := .methodLink RL 150 yX9_rests
noncomputable abbrev ww_1267 : Cond := .instanceMethod yX9_rests
noncomputable abbrev ww_1268 : Cond := .selects RX9 yX9_rests yX9_rests
noncomputable abbrev ww_1269 : Cond := .code yX9_rests cX9_rests 9 (some .int)
noncomputable abbrev ww_1270 : Cond := .methodLink RL 151 yX8_years
noncomputable abbrev ww_1271 : Cond := .instanceMethod yX8_years
noncomputable abbrev ww_1272 : Cond := .selects RX8 yX8_years yX8_years
noncomputable abbrev ww_1273 : Cond := .code yX8_years cX8_years 5 (some .int)
noncomputable abbrev ww_1274 : Cond := .methodLink RL 154 yX9_years
noncomputable abbrev ww_1275 : Cond := .instanceMethod yX9_years
noncomputable abbrev ww_1276 : Cond := .selects RX9 yX9_years yX9_years
noncomputable abbrev ww_1277 : Cond := .code yX9_years cX9_years 7 (some .int)
noncomputable abbrev ww_1278 : Cond := .methodLink RL 155 yX8_mark
noncomputable abbrev ww_1279 : Cond := .instanceMethod yX8_mark
noncomputable abbrev ww_1280 : Cond := .selects RX8 yX8_mark yX8_mark
noncomputable abbrev ww_1281 : Cond := .code yX8_mark cX8_mark 4 (some .boolean)
noncomputable abbrev ww_1282 : Cond := .methodLink RL 159 yX9_mark
noncomputable abbrev ww_1283 : Cond := .instanceMethod yX9_mark
noncomputable abbrev ww_1284 : Cond := .selects RX9 yX9_mark yX9_mark
noncomputable abbrev ww_1285 : Cond := .code yX9_mark cX9_mark 5 (some .boolean)
noncomputable abbrev ww_1286 : Cond := .methodLink RL 160 yX8_count
noncomputable abbrev ww_1287 : Cond := .instanceMethod yX8_count
noncomputable abbrev ww_1288 : Cond := .selects RX8 yX8_count yX8_count
noncomputable abbrev ww_1289 : Cond := .code yX8_count cX8_count 2 (some .int)
noncomputable abbrev ww_1290 : Cond := .methodLink RL 163 yX9_count
noncomputable abbrev ww_1291 : Cond := .instanceMethod yX9_count
noncomputable abbrev ww_1292 : Cond := .selects RX9 yX9_count yX9_count
noncomputable abbrev ww_1293 : Cond := .code yX9_count cX9_count 2 (some .int)
noncomputable def wsX0_init : List Cond := .code yX0_init cX0_init 1 none :: ([ww_0, ww_1, ww_2, ww_3, ww_4, ww_5, ww_6] ++ wsX00)
noncomputable def wsX0_clear : List Cond := .code yX0_clear cX0_clear 1 none :: ([ww_7] ++ wsX00)
noncomputable def wsX6_wrong : List Cond := .code yX6_wrong cX6_wrong 2 (some .boolean) :: ([ww_8, ww_9] ++ wsX60)
noncomputable def wsX6_isLetter : List Cond := .code yX6_isLetter cX6_isLetter 1 (some .boolean) :: ([])
noncomputable def wsX6_withLetter : List Cond := .code yX6_withLetter cX6_withLetter 3 (some .long) :: ([ww_10])
noncomputable def wsX6_readWord : List Cond := .code yX6_readWord cX6_readWord 2 none :: ([ww_11, ww_12, ww_13, ww_14, ww_8, ww_15, ww_16, ww_17, ww_18, ww_19, ww_20, ww_21, ww_22, ww_23, ww_24, ww_10] ++ wsX60)
noncomputable def wsX6_isDigit : List Cond := .code yX6_isDigit cX6_isDigit 1 (some .boolean) :: ([])
noncomputable def wsX6_readNumber : List Cond := .code yX6_readNumber cX6_readNumber 1 none :: ([ww_17, ww_12, ww_13, ww_14, ww_8, ww_15, ww_25, ww_26, ww_20, ww_27] ++ wsX60)
noncomputable def wsJ0_isLatin1_aae02 : List Cond := .code yJ0_isLatin1_aae02 cJ0_isLatin1_aae02 1 (some .boolean) :: ([ww_28, ww_29])
noncomputable def wsJ0_coder_7d493 : List Cond := .code yJ0_coder_7d493 cJ0_coder_7d493 1 (some .byte) :: ([ww_28, ww_29])
noncomputable def wsJ0_length_8abf5 : List Cond := .code yJ0_length_8abf5 cJ0_length_8abf5 1 (some .int) :: ([ww_30, ww_31, ww_32, ww_33, ww_34, ww_35, ww_28, ww_29])
noncomputable def wsJ1_canEncode_9a6ad : List Cond := .code yJ1_canEncode_9a6ad cJ1_canEncode_9a6ad 1 (some .boolean) :: ([])
noncomputable def wsJ1_indexOfChar_4cfef : List Cond := .code yJ1_indexOfChar_4cfef cJ1_indexOfChar_4cfef 6 (some .int) :: ([])
noncomputable def wsJ1_indexOf_4cfef : List Cond := .code yJ1_indexOf_4cfef cJ1_indexOf_4cfef 4 (some .int) :: ([ww_36, ww_37, ww_38, ww_39, ww_40, ww_41, ww_42, ww_43, ww_44, ww_45, ww_46, ww_47, ww_48, ww_49])
noncomputable def wsJ2_length_9d52b : List Cond := .code yJ2_length_9d52b cJ2_length_9d52b 1 (some .int) :: ([])
noncomputable def wsJ3_checkFromToIndex_8c36e : List Cond := .code yJ3_checkFromToIndex_8c36e cJ3_checkFromToIndex_8c36e 4 (some .int) :: ([])
noncomputable def wsJ0_checkBoundsBeginEnd_23922 : List Cond := .code yJ0_checkBoundsBeginEnd_23922 cJ0_checkBoundsBeginEnd_23922 3 none :: ([ww_50, ww_51, ww_52, ww_53, ww_54])
noncomputable def wsJ2_checkBoundsBeginEnd_d044e : List Cond := .code yJ2_checkBoundsBeginEnd_d044e cJ2_checkBoundsBeginEnd_d044e 3 none :: ([ww_55, ww_56, ww_57, ww_58, ww_59, ww_60, ww_34, ww_61, ww_50, ww_51, ww_52, ww_53, ww_54])
noncomputable def wsJ2_getChar_3b067 : List Cond := .code yJ2_getChar_3b067 cJ2_getChar_3b067 2 (some .char) :: ([ww_62, ww_63, ww_64, ww_55, ww_56, ww_57, ww_58])
noncomputable def wsJ2_indexOfCharUnsafe_4cfef : List Cond := .code yJ2_indexOfCharUnsafe_4cfef cJ2_indexOfCharUnsafe_4cfef 5 (some .int) :: ([ww_65, ww_66, ww_57, ww_67, ww_62, ww_63, ww_64, ww_55, ww_56, ww_58])
noncomputable def wsJ2_indexOfChar_4cfef_r1 : List Cond := [ww_68, ww_69, ww_57, ww_70, ww_55, ww_56, ww_58, ww_59, ww_60, ww_34, ww_61, ww_50, ww_51, ww_52, ww_53, ww_54, ww_71, ww_72, ww_73, ww_65, ww_66, ww_67, ww_62, ww_63]
noncomputable def wsJ2_indexOfChar_4cfef_r2 : List Cond := [ww_64]
noncomputable def wsJ2_indexOfChar_4cfef : List Cond := .code yJ2_indexOfChar_4cfef cJ2_indexOfChar_4cfef 4 (some .int) :: ((wsJ2_indexOfChar_4cfef_r1 ++ wsJ2_indexOfChar_4cfef_r2))
noncomputable def wsJ11_isValidCodePoint_9a6ad : List Cond := .code yJ11_isValidCodePoint_9a6ad cJ11_isValidCodePoint_9a6ad 2 (some .boolean) :: ([])
noncomputable def wsJ11_highSurrogate_5068e : List Cond := .code yJ11_highSurrogate_5068e cJ11_highSurrogate_5068e 1 (some .char) :: ([ww_74])
noncomputable def wsJ11_lowSurrogate_5068e : List Cond := .code yJ11_lowSurrogate_5068e cJ11_lowSurrogate_5068e 1 (some .char) :: ([ww_75])
noncomputable def wsJ2_indexOfSupplementary_4cfef_r1 : List Cond := [ww_76, ww_77, ww_78, ww_79, ww_80, ww_81, ww_82, ww_74, ww_83, ww_84, ww_85, ww_75, ww_68, ww_69, ww_57, ww_70, ww_55, ww_56, ww_58, ww_59, ww_60, ww_34, ww_61, ww_50]
noncomputable def wsJ2_indexOfSupplementary_4cfef_r2 : List Cond := [ww_51, ww_52, ww_53, ww_54, ww_65, ww_66, ww_67, ww_62, ww_63, ww_64]
noncomputable def wsJ2_indexOfSupplementary_4cfef : List Cond := .code yJ2_indexOfSupplementary_4cfef cJ2_indexOfSupplementary_4cfef 7 (some .int) :: ((wsJ2_indexOfSupplementary_4cfef_r1 ++ wsJ2_indexOfSupplementary_4cfef_r2))
noncomputable def wsJ2_indexOf_4cfef_r1 : List Cond := [ww_86, ww_37, ww_38, ww_39, ww_87, ww_41, ww_42, ww_88, ww_89, ww_90, ww_57, ww_91, ww_68, ww_69, ww_70, ww_55, ww_56, ww_58, ww_59, ww_60, ww_34, ww_61, ww_50, ww_51]
noncomputable def wsJ2_indexOf_4cfef_r2 : List Cond := [ww_52, ww_53, ww_54, ww_71, ww_72, ww_73, ww_65, ww_66, ww_67, ww_62, ww_63, ww_64, ww_92, ww_93, ww_94, ww_76, ww_77, ww_78, ww_79, ww_80, ww_81, ww_82, ww_74, ww_83]
noncomputable def wsJ2_indexOf_4cfef_r3 : List Cond := [ww_84, ww_85, ww_75]
noncomputable def wsJ2_indexOf_4cfef : List Cond := .code yJ2_indexOf_4cfef cJ2_indexOf_4cfef 4 (some .int) :: ((wsJ2_indexOf_4cfef_r1 ++ (wsJ2_indexOf_4cfef_r2 ++ wsJ2_indexOf_4cfef_r3)))
noncomputable def wsJ0_indexOf_7cf53_r1 : List Cond := [ww_30, ww_95, ww_96, ww_97, ww_34, ww_98, ww_28, ww_29, ww_99, ww_100, ww_101, ww_102, ww_31, ww_32, ww_33, ww_35, ww_103, ww_104, ww_45, ww_105, ww_36, ww_37, ww_38, ww_39]
noncomputable def wsJ0_indexOf_7cf53_r2 : List Cond := [ww_40, ww_41, ww_42, ww_43, ww_44, ww_46, ww_47, ww_48, ww_49, ww_106, ww_107, ww_57, ww_108, ww_86, ww_87, ww_88, ww_89, ww_90, ww_91, ww_68, ww_69, ww_70, ww_55, ww_56]
noncomputable def wsJ0_indexOf_7cf53_r3 : List Cond := [ww_58, ww_59, ww_60, ww_61, ww_50, ww_51, ww_52, ww_53, ww_54, ww_71, ww_72, ww_73, ww_65, ww_66, ww_67, ww_62, ww_63, ww_64, ww_92, ww_93, ww_94, ww_76, ww_77, ww_78]
noncomputable def wsJ0_indexOf_7cf53_r4 : List Cond := [ww_79, ww_80, ww_81, ww_82, ww_74, ww_83, ww_84, ww_85, ww_75]
noncomputable def wsJ0_indexOf_7cf53 : List Cond := .code yJ0_indexOf_7cf53 cJ0_indexOf_7cf53 3 (some .int) :: ((wsJ0_indexOf_7cf53_r1 ++ (wsJ0_indexOf_7cf53_r2 ++ (wsJ0_indexOf_7cf53_r3 ++ wsJ0_indexOf_7cf53_r4))))
noncomputable def wsJ0_indexOf_0f7a4_r1 : List Cond := [ww_109, ww_110, ww_111, ww_34, ww_112, ww_30, ww_95, ww_96, ww_97, ww_98, ww_28, ww_29, ww_99, ww_100, ww_101, ww_102, ww_31, ww_32, ww_33, ww_35, ww_103, ww_104, ww_45, ww_105]
noncomputable def wsJ0_indexOf_0f7a4_r2 : List Cond := [ww_36, ww_37, ww_38, ww_39, ww_40, ww_41, ww_42, ww_43, ww_44, ww_46, ww_47, ww_48, ww_49, ww_106, ww_107, ww_57, ww_108, ww_86, ww_87, ww_88, ww_89, ww_90, ww_91, ww_68]
noncomputable def wsJ0_indexOf_0f7a4_r3 : List Cond := [ww_69, ww_70, ww_55, ww_56, ww_58, ww_59, ww_60, ww_61, ww_50, ww_51, ww_52, ww_53, ww_54, ww_71, ww_72, ww_73, ww_65, ww_66, ww_67, ww_62, ww_63, ww_64, ww_92, ww_93]
noncomputable def wsJ0_indexOf_0f7a4_r4 : List Cond := [ww_94, ww_76, ww_77, ww_78, ww_79, ww_80, ww_81, ww_82, ww_74, ww_83, ww_84, ww_85, ww_75]
noncomputable def wsJ0_indexOf_0f7a4 : List Cond := .code yJ0_indexOf_0f7a4 cJ0_indexOf_0f7a4 2 (some .int) :: ((wsJ0_indexOf_0f7a4_r1 ++ (wsJ0_indexOf_0f7a4_r2 ++ (wsJ0_indexOf_0f7a4_r3 ++ wsJ0_indexOf_0f7a4_r4))))
noncomputable def wsX6_advance_r1 : List Cond := [ww_12, ww_13, ww_14, ww_8, ww_17, ww_15, ww_18, ww_19, ww_20, ww_21, ww_113, ww_114, ww_115, ww_116, ww_11, ww_16, ww_22, ww_23, ww_24, ww_10, ww_25, ww_26, ww_27, ww_117]
noncomputable def wsX6_advance_r2 : List Cond := [ww_118, ww_119, ww_120, ww_121, ww_122, ww_123, ww_34, ww_124, ww_109, ww_110, ww_111, ww_112, ww_30, ww_95, ww_96, ww_97, ww_98, ww_28, ww_29, ww_99, ww_100, ww_101, ww_102, ww_31]
noncomputable def wsX6_advance_r3 : List Cond := [ww_32, ww_33, ww_35, ww_103, ww_104, ww_45, ww_105, ww_36, ww_37, ww_38, ww_39, ww_40, ww_41, ww_42, ww_43, ww_44, ww_46, ww_47, ww_48, ww_49, ww_106, ww_107, ww_57, ww_108]
noncomputable def wsX6_advance_r4 : List Cond := [ww_86, ww_87, ww_88, ww_89, ww_90, ww_91, ww_68, ww_69, ww_70, ww_55, ww_56, ww_58, ww_59, ww_60, ww_61, ww_50, ww_51, ww_52, ww_53, ww_54, ww_71, ww_72, ww_73, ww_65]
noncomputable def wsX6_advance_r5 : List Cond := [ww_66, ww_67, ww_62, ww_63, ww_64, ww_92, ww_93, ww_94, ww_76, ww_77, ww_78, ww_79, ww_80, ww_81, ww_82, ww_74, ww_83, ww_84, ww_85, ww_75]
noncomputable def wsX6_advance : List Cond := .code yX6_advance cX6_advance 1 none :: ((wsX6_advance_r1 ++ (wsX6_advance_r2 ++ (wsX6_advance_r3 ++ (wsX6_advance_r4 ++ wsX6_advance_r5)))) ++ wsX60)
noncomputable def wsX0_takeTastes_r1 : List Cond := [ww_7, ww_125, ww_126, ww_127, ww_20, ww_128, ww_8, ww_9, ww_129, ww_130, ww_131, ww_132, ww_12, ww_13, ww_14, ww_17, ww_15, ww_18, ww_19, ww_21, ww_113, ww_114, ww_115, ww_116]
noncomputable def wsX0_takeTastes_r2 : List Cond := [ww_11, ww_16, ww_22, ww_23, ww_24, ww_10, ww_25, ww_26, ww_27, ww_117, ww_118, ww_119, ww_120, ww_121, ww_122, ww_123, ww_34, ww_124, ww_109, ww_110, ww_111, ww_112, ww_30, ww_95]
noncomputable def wsX0_takeTastes_r3 : List Cond := [ww_96, ww_97, ww_98, ww_28, ww_29, ww_99, ww_100, ww_101, ww_102, ww_31, ww_32, ww_33, ww_35, ww_103, ww_104, ww_45, ww_105, ww_36, ww_37, ww_38, ww_39, ww_40, ww_41, ww_42]
noncomputable def wsX0_takeTastes_r4 : List Cond := [ww_43, ww_44, ww_46, ww_47, ww_48, ww_49, ww_106, ww_107, ww_57, ww_108, ww_86, ww_87, ww_88, ww_89, ww_90, ww_91, ww_68, ww_69, ww_70, ww_55, ww_56, ww_58, ww_59, ww_60]
noncomputable def wsX0_takeTastes_r5 : List Cond := [ww_61, ww_50, ww_51, ww_52, ww_53, ww_54, ww_71, ww_72, ww_73, ww_65, ww_66, ww_67, ww_62, ww_63, ww_64, ww_92, ww_93, ww_94, ww_76, ww_77, ww_78, ww_79, ww_80, ww_81]
noncomputable def wsX0_takeTastes_r6 : List Cond := [ww_82, ww_74, ww_83, ww_84, ww_85, ww_75]
noncomputable def wsX0_takeTastes : List Cond := .code yX0_takeTastes cX0_takeTastes 2 (some .boolean) :: ((wsX0_takeTastes_r1 ++ (wsX0_takeTastes_r2 ++ (wsX0_takeTastes_r3 ++ (wsX0_takeTastes_r4 ++ (wsX0_takeTastes_r5 ++ wsX0_takeTastes_r6))))) ++ wsX00 ++ wsX60)
noncomputable def wsX6_isWord : List Cond := .code yX6_isWord cX6_isWord 2 (some .boolean) :: ([ww_15, ww_17] ++ wsX60)
noncomputable def wsX6_isSign : List Cond := .code yX6_isSign cX6_isSign 2 (some .boolean) :: ([ww_15, ww_17] ++ wsX60)
noncomputable def wsX0_operatorAt : List Cond := .code yX0_operatorAt cX0_operatorAt 1 (some .int) :: ([ww_133, ww_134, ww_135, ww_20, ww_136, ww_15, ww_17, ww_137, ww_138, ww_139, ww_140] ++ wsX60)
noncomputable def wsX0_tightnessOf : List Cond := .code yX0_tightnessOf cX0_tightnessOf 1 (some .int) :: ([])
noncomputable def wsX0_write : List Cond := .code yX0_write cX0_write 2 none :: ([ww_7, ww_4] ++ wsX00)
noncomputable def wsX6_isNumber : List Cond := .code yX6_isNumber cX6_isNumber 1 (some .boolean) :: ([ww_15] ++ wsX60)
noncomputable def wsX6_wordHere : List Cond := .code yX6_wordHere cX6_wordHere 1 (some .int) :: ([ww_15, ww_17] ++ wsX60)
noncomputable def wsX6_takeSign_r1 : List Cond := [ww_141, ww_138, ww_139, ww_20, ww_140, ww_15, ww_17, ww_142, ww_126, ww_127, ww_128, ww_8, ww_9, ww_143, ww_130, ww_131, ww_132, ww_12, ww_13, ww_14, ww_18, ww_19, ww_21, ww_113]
noncomputable def wsX6_takeSign_r2 : List Cond := [ww_114, ww_115, ww_116, ww_11, ww_16, ww_22, ww_23, ww_24, ww_10, ww_25, ww_26, ww_27, ww_117, ww_118, ww_119, ww_120, ww_121, ww_122, ww_123, ww_34, ww_124, ww_109, ww_110, ww_111]
noncomputable def wsX6_takeSign_r3 : List Cond := [ww_112, ww_30, ww_95, ww_96, ww_97, ww_98, ww_28, ww_29, ww_99, ww_100, ww_101, ww_102, ww_31, ww_32, ww_33, ww_35, ww_103, ww_104, ww_45, ww_105, ww_36, ww_37, ww_38, ww_39]
noncomputable def wsX6_takeSign_r4 : List Cond := [ww_40, ww_41, ww_42, ww_43, ww_44, ww_46, ww_47, ww_48, ww_49, ww_106, ww_107, ww_57, ww_108, ww_86, ww_87, ww_88, ww_89, ww_90, ww_91, ww_68, ww_69, ww_70, ww_55, ww_56]
noncomputable def wsX6_takeSign_r5 : List Cond := [ww_58, ww_59, ww_60, ww_61, ww_50, ww_51, ww_52, ww_53, ww_54, ww_71, ww_72, ww_73, ww_65, ww_66, ww_67, ww_62, ww_63, ww_64, ww_92, ww_93, ww_94, ww_76, ww_77, ww_78]
noncomputable def wsX6_takeSign_r6 : List Cond := [ww_79, ww_80, ww_81, ww_82, ww_74, ww_83, ww_84, ww_85, ww_75]
noncomputable def wsX6_takeSign : List Cond := .code yX6_takeSign cX6_takeSign 2 (some .boolean) :: ((wsX6_takeSign_r1 ++ (wsX6_takeSign_r2 ++ (wsX6_takeSign_r3 ++ (wsX6_takeSign_r4 ++ (wsX6_takeSign_r5 ++ wsX6_takeSign_r6))))) ++ wsX60)
noncomputable def wsX0_readOver_r1 : List Cond := [ww_144, ww_145, ww_146, ww_147, ww_148, ww_149, ww_150, ww_133, ww_134, ww_135, ww_20, ww_136, ww_15, ww_17, ww_137, ww_138, ww_139, ww_140, ww_151, ww_152, ww_153, ww_129, ww_130, ww_131]
noncomputable def wsX0_readOver_r2 : List Cond := [ww_132, ww_12, ww_13, ww_14, ww_8, ww_18, ww_19, ww_21, ww_113, ww_114, ww_115, ww_116, ww_11, ww_16, ww_22, ww_23, ww_24, ww_10, ww_25, ww_26, ww_27, ww_117, ww_118, ww_119]
noncomputable def wsX0_readOver_r3 : List Cond := [ww_120, ww_121, ww_122, ww_123, ww_34, ww_124, ww_109, ww_110, ww_111, ww_112, ww_30, ww_95, ww_96, ww_97, ww_98, ww_28, ww_29, ww_99, ww_100, ww_101, ww_102, ww_31, ww_32, ww_33]
noncomputable def wsX0_readOver_r4 : List Cond := [ww_35, ww_103, ww_104, ww_45, ww_105, ww_36, ww_37, ww_38, ww_39, ww_40, ww_41, ww_42, ww_43, ww_44, ww_46, ww_47, ww_48, ww_49, ww_106, ww_107, ww_57, ww_108, ww_86, ww_87]
noncomputable def wsX0_readOver_r5 : List Cond := [ww_88, ww_89, ww_90, ww_91, ww_68, ww_69, ww_70, ww_55, ww_56, ww_58, ww_59, ww_60, ww_61, ww_50, ww_51, ww_52, ww_53, ww_54, ww_71, ww_72, ww_73, ww_65, ww_66, ww_67]
noncomputable def wsX0_readOver_r6 : List Cond := [ww_62, ww_63, ww_64, ww_92, ww_93, ww_94, ww_76, ww_77, ww_78, ww_79, ww_80, ww_81, ww_82, ww_74, ww_83, ww_84, ww_85, ww_75, ww_154, ww_155, ww_156, ww_157, ww_158, ww_159]
noncomputable def wsX0_readOver_r7 : List Cond := [ww_160, ww_7, ww_4, ww_161, ww_162, ww_163, ww_164, ww_165, ww_166, ww_167, ww_168, ww_169, ww_170, ww_125, ww_126, ww_127, ww_128, ww_9, ww_171, ww_172, ww_173, ww_174, ww_141, ww_142]
noncomputable def wsX0_readOver_r8 : List Cond := [ww_143]
noncomputable def wsX0_readOver : List Cond := .code yX0_readOver cX0_readOver 8 (some .boolean) :: ((wsX0_readOver_r1 ++ (wsX0_readOver_r2 ++ (wsX0_readOver_r3 ++ (wsX0_readOver_r4 ++ (wsX0_readOver_r5 ++ (wsX0_readOver_r6 ++ (wsX0_readOver_r7 ++ wsX0_readOver_r8))))))) ++ wsX60 ++ wsX00)
noncomputable def wsX0_readPart_r1 : List Cond := [ww_162, ww_163, ww_164, ww_165, ww_20, ww_166, ww_15, ww_167, ww_168, ww_169, ww_170, ww_17, ww_133, ww_134, ww_135, ww_136, ww_137, ww_138, ww_139, ww_140, ww_125, ww_126, ww_127, ww_128]
noncomputable def wsX0_readPart_r2 : List Cond := [ww_8, ww_9, ww_157, ww_158, ww_159, ww_147, ww_160, ww_7, ww_4, ww_129, ww_130, ww_131, ww_132, ww_12, ww_13, ww_14, ww_18, ww_19, ww_21, ww_113, ww_114, ww_115, ww_116, ww_11]
noncomputable def wsX0_readPart_r3 : List Cond := [ww_16, ww_22, ww_23, ww_24, ww_10, ww_25, ww_26, ww_27, ww_117, ww_118, ww_119, ww_120, ww_121, ww_122, ww_123, ww_34, ww_124, ww_109, ww_110, ww_111, ww_112, ww_30, ww_95, ww_96]
noncomputable def wsX0_readPart_r4 : List Cond := [ww_97, ww_98, ww_28, ww_29, ww_99, ww_100, ww_101, ww_102, ww_31, ww_32, ww_33, ww_35, ww_103, ww_104, ww_45, ww_105, ww_36, ww_37, ww_38, ww_39, ww_40, ww_41, ww_42, ww_43]
noncomputable def wsX0_readPart_r5 : List Cond := [ww_44, ww_46, ww_47, ww_48, ww_49, ww_106, ww_107, ww_57, ww_108, ww_86, ww_87, ww_88, ww_89, ww_90, ww_91, ww_68, ww_69, ww_70, ww_55, ww_56, ww_58, ww_59, ww_60, ww_61]
noncomputable def wsX0_readPart_r6 : List Cond := [ww_50, ww_51, ww_52, ww_53, ww_54, ww_71, ww_72, ww_73, ww_65, ww_66, ww_67, ww_62, ww_63, ww_64, ww_92, ww_93, ww_94, ww_76, ww_77, ww_78, ww_79, ww_80, ww_81, ww_82]
noncomputable def wsX0_readPart_r7 : List Cond := [ww_74, ww_83, ww_84, ww_85, ww_75, ww_154, ww_155, ww_156, ww_171, ww_172, ww_173, ww_174, ww_141, ww_142, ww_143, ww_144, ww_145, ww_146, ww_175, ww_148, ww_149, ww_150, ww_151, ww_152]
noncomputable def wsX0_readPart_r8 : List Cond := [ww_153]
noncomputable def wsX0_readPart : List Cond := .code yX0_readPart cX0_readPart 6 (some .boolean) :: ((wsX0_readPart_r1 ++ (wsX0_readPart_r2 ++ (wsX0_readPart_r3 ++ (wsX0_readPart_r4 ++ (wsX0_readPart_r5 ++ (wsX0_readPart_r6 ++ (wsX0_readPart_r7 ++ wsX0_readPart_r8))))))) ++ wsX60 ++ wsX00)
noncomputable def wsX0_push : List Cond := .code yX0_push cX0_push 2 none :: ([ww_176, ww_5] ++ wsX00)
noncomputable def wsX0_join : List Cond := .code yX0_join cX0_join 3 (some .int) :: ([])
noncomputable def wsX0_work : List Cond := .code yX0_work cX0_work 2 none :: ([ww_6, ww_176, ww_5, ww_177, ww_178, ww_179, ww_147, ww_180, ww_181, ww_182, ww_183] ++ wsX00)
noncomputable def wsX0_taste : List Cond := .code yX0_taste cX0_taste 6 (some .int) :: ([ww_6, ww_176, ww_7, ww_4, ww_5, ww_184, ww_41, ww_38, ww_42, ww_185, ww_37, ww_39, ww_186, ww_187, ww_188, ww_147, ww_189, ww_177, ww_178, ww_179, ww_180, ww_181, ww_182, ww_183] ++ wsX00)
noncomputable def wsX1_init : List Cond := .code yX1_init cX1_init 1 none :: ([ww_190, ww_1, ww_2, ww_3, ww_191, ww_192, ww_193] ++ wsX10)
noncomputable def wsX1_clear : List Cond := .code yX1_clear cX1_clear 1 none :: ([ww_194] ++ wsX10)
noncomputable def wsX1_copyFrom : List Cond := .code yX1_copyFrom cX1_copyFrom 2 none :: ([ww_191, ww_195, ww_196, ww_197, ww_198, ww_192, ww_193, ww_194] ++ wsX10)
noncomputable def wsX6_isAtEnd : List Cond := .code yX6_isAtEnd cX6_isAtEnd 1 (some .boolean) :: ([ww_15] ++ wsX60)
noncomputable def wsX6_isName : List Cond := .code yX6_isName cX6_isName 1 (some .boolean) :: ([ww_15, ww_17] ++ wsX60)
noncomputable def wsX7_numberOf : List Cond := .code yX7_numberOf cX7_numberOf 4 (some .int) :: ([ww_199, ww_200] ++ wsX70)
noncomputable def wsX1_readName : List Cond := .code yX1_readName cX1_readName 3 (some .int) :: ([ww_201, ww_202, ww_203, ww_204, ww_20, ww_205, ww_15, ww_17, ww_206, ww_207, ww_208, ww_209, ww_210, ww_199, ww_200, ww_211, ww_126, ww_127, ww_128, ww_8, ww_9] ++ wsX60 ++ wsX70)
noncomputable def wsX1_readHired_r1 : List Cond := [ww_193, ww_192, ww_212, ww_213, ww_214, ww_215, ww_201, ww_202, ww_203, ww_204, ww_20, ww_205, ww_15, ww_17, ww_206, ww_207, ww_208, ww_209, ww_210, ww_199, ww_200, ww_211, ww_126, ww_127]
noncomputable def wsX1_readHired_r2 : List Cond := [ww_128, ww_8, ww_9, ww_216, ww_130, ww_131, ww_132, ww_12, ww_13, ww_14, ww_18, ww_19, ww_21, ww_113, ww_114, ww_115, ww_116, ww_11, ww_16, ww_22, ww_23, ww_24, ww_10, ww_25]
noncomputable def wsX1_readHired_r3 : List Cond := [ww_26, ww_27, ww_117, ww_118, ww_119, ww_120, ww_121, ww_122, ww_123, ww_34, ww_124, ww_109, ww_110, ww_111, ww_112, ww_30, ww_95, ww_96, ww_97, ww_98, ww_28, ww_29, ww_99, ww_100]
noncomputable def wsX1_readHired_r4 : List Cond := [ww_101, ww_102, ww_31, ww_32, ww_33, ww_35, ww_103, ww_104, ww_45, ww_105, ww_36, ww_37, ww_38, ww_39, ww_40, ww_41, ww_42, ww_43, ww_44, ww_46, ww_47, ww_48, ww_49, ww_106]
noncomputable def wsX1_readHired_r5 : List Cond := [ww_107, ww_57, ww_108, ww_86, ww_87, ww_88, ww_89, ww_90, ww_91, ww_68, ww_69, ww_70, ww_55, ww_56, ww_58, ww_59, ww_60, ww_61, ww_50, ww_51, ww_52, ww_53, ww_54, ww_71]
noncomputable def wsX1_readHired_r6 : List Cond := [ww_72, ww_73, ww_65, ww_66, ww_67, ww_62, ww_63, ww_64, ww_92, ww_93, ww_94, ww_76, ww_77, ww_78, ww_79, ww_80, ww_81, ww_82, ww_74, ww_83, ww_84, ww_85, ww_75]
noncomputable def wsX1_readHired : List Cond := .code yX1_readHired cX1_readHired 4 (some .boolean) :: ((wsX1_readHired_r1 ++ (wsX1_readHired_r2 ++ (wsX1_readHired_r3 ++ (wsX1_readHired_r4 ++ (wsX1_readHired_r5 ++ wsX1_readHired_r6))))) ++ wsX10 ++ wsX60 ++ wsX70)
noncomputable def wsX8_isWithin : List Cond := .code yX8_isWithin cX8_isWithin 3 (some .boolean) :: ([])
noncomputable def wsX6_checkNumber : List Cond := .code yX6_checkNumber cX6_checkNumber 3 (some .boolean) :: ([ww_15, ww_17, ww_142, ww_126, ww_127, ww_20, ww_128, ww_8, ww_9, ww_217, ww_218, ww_219] ++ wsX60)
noncomputable def wsX6_takeNumber_r1 : List Cond := [ww_17, ww_220, ww_221, ww_222, ww_20, ww_223, ww_15, ww_142, ww_126, ww_127, ww_128, ww_8, ww_9, ww_217, ww_218, ww_219, ww_143, ww_130, ww_131, ww_132, ww_12, ww_13, ww_14, ww_18]
noncomputable def wsX6_takeNumber_r2 : List Cond := [ww_19, ww_21, ww_113, ww_114, ww_115, ww_116, ww_11, ww_16, ww_22, ww_23, ww_24, ww_10, ww_25, ww_26, ww_27, ww_117, ww_118, ww_119, ww_120, ww_121, ww_122, ww_123, ww_34, ww_124]
noncomputable def wsX6_takeNumber_r3 : List Cond := [ww_109, ww_110, ww_111, ww_112, ww_30, ww_95, ww_96, ww_97, ww_98, ww_28, ww_29, ww_99, ww_100, ww_101, ww_102, ww_31, ww_32, ww_33, ww_35, ww_103, ww_104, ww_45, ww_105, ww_36]
noncomputable def wsX6_takeNumber_r4 : List Cond := [ww_37, ww_38, ww_39, ww_40, ww_41, ww_42, ww_43, ww_44, ww_46, ww_47, ww_48, ww_49, ww_106, ww_107, ww_57, ww_108, ww_86, ww_87, ww_88, ww_89, ww_90, ww_91, ww_68, ww_69]
noncomputable def wsX6_takeNumber_r5 : List Cond := [ww_70, ww_55, ww_56, ww_58, ww_59, ww_60, ww_61, ww_50, ww_51, ww_52, ww_53, ww_54, ww_71, ww_72, ww_73, ww_65, ww_66, ww_67, ww_62, ww_63, ww_64, ww_92, ww_93, ww_94]
noncomputable def wsX6_takeNumber_r6 : List Cond := [ww_76, ww_77, ww_78, ww_79, ww_80, ww_81, ww_82, ww_74, ww_83, ww_84, ww_85, ww_75]
noncomputable def wsX6_takeNumber : List Cond := .code yX6_takeNumber cX6_takeNumber 4 (some .int) :: ((wsX6_takeNumber_r1 ++ (wsX6_takeNumber_r2 ++ (wsX6_takeNumber_r3 ++ (wsX6_takeNumber_r4 ++ (wsX6_takeNumber_r5 ++ wsX6_takeNumber_r6))))) ++ wsX60)
noncomputable def wsX1_readLine_r1 : List Cond := [ww_194, ww_191, ww_192, ww_193, ww_224, ww_168, ww_169, ww_20, ww_170, ww_15, ww_17, ww_211, ww_126, ww_127, ww_128, ww_8, ww_9, ww_216, ww_130, ww_131, ww_132, ww_12, ww_13, ww_14]
noncomputable def wsX1_readLine_r2 : List Cond := [ww_18, ww_19, ww_21, ww_113, ww_114, ww_115, ww_116, ww_11, ww_16, ww_22, ww_23, ww_24, ww_10, ww_25, ww_26, ww_27, ww_117, ww_118, ww_119, ww_120, ww_121, ww_122, ww_123, ww_34]
noncomputable def wsX1_readLine_r3 : List Cond := [ww_124, ww_109, ww_110, ww_111, ww_112, ww_30, ww_95, ww_96, ww_97, ww_98, ww_28, ww_29, ww_99, ww_100, ww_101, ww_102, ww_31, ww_32, ww_33, ww_35, ww_103, ww_104, ww_45, ww_105]
noncomputable def wsX1_readLine_r4 : List Cond := [ww_36, ww_37, ww_38, ww_39, ww_40, ww_41, ww_42, ww_43, ww_44, ww_46, ww_47, ww_48, ww_49, ww_106, ww_107, ww_57, ww_108, ww_86, ww_87, ww_88, ww_89, ww_90, ww_91, ww_68]
noncomputable def wsX1_readLine_r5 : List Cond := [ww_69, ww_70, ww_55, ww_56, ww_58, ww_59, ww_60, ww_61, ww_50, ww_51, ww_52, ww_53, ww_54, ww_71, ww_72, ww_73, ww_65, ww_66, ww_67, ww_62, ww_63, ww_64, ww_92, ww_93]
noncomputable def wsX1_readLine_r6 : List Cond := [ww_94, ww_76, ww_77, ww_78, ww_79, ww_80, ww_81, ww_82, ww_74, ww_83, ww_84, ww_85, ww_75, ww_212, ww_213, ww_214, ww_215, ww_201, ww_202, ww_203, ww_204, ww_205, ww_206, ww_207]
noncomputable def wsX1_readLine_r7 : List Cond := [ww_208, ww_209, ww_210, ww_199, ww_200, ww_225, ww_226, ww_227, ww_228, ww_229, ww_230, ww_231, ww_232, ww_220, ww_221, ww_222, ww_223, ww_142, ww_217, ww_218, ww_219, ww_143]
noncomputable def wsX1_readLine : List Cond := .code yX1_readLine cX1_readLine 5 (some .boolean) :: ((wsX1_readLine_r1 ++ (wsX1_readLine_r2 ++ (wsX1_readLine_r3 ++ (wsX1_readLine_r4 ++ (wsX1_readLine_r5 ++ (wsX1_readLine_r6 ++ wsX1_readLine_r7)))))) ++ wsX10 ++ wsX60 ++ wsX70)
noncomputable def wsX1_read_r1 : List Cond := [ww_233, ww_234, ww_235, ww_214, ww_236, ww_194, ww_237, ww_238, ww_239, ww_20, ww_240, ww_15, ww_241, ww_242, ww_243, ww_244, ww_191, ww_192, ww_193, ww_224, ww_168, ww_169, ww_170, ww_17]
noncomputable def wsX1_read_r2 : List Cond := [ww_211, ww_126, ww_127, ww_128, ww_8, ww_9, ww_216, ww_130, ww_131, ww_132, ww_12, ww_13, ww_14, ww_18, ww_19, ww_21, ww_113, ww_114, ww_115, ww_116, ww_11, ww_16, ww_22, ww_23]
noncomputable def wsX1_read_r3 : List Cond := [ww_24, ww_10, ww_25, ww_26, ww_27, ww_117, ww_118, ww_119, ww_120, ww_121, ww_122, ww_123, ww_34, ww_124, ww_109, ww_110, ww_111, ww_112, ww_30, ww_95, ww_96, ww_97, ww_98, ww_28]
noncomputable def wsX1_read_r4 : List Cond := [ww_29, ww_99, ww_100, ww_101, ww_102, ww_31, ww_32, ww_33, ww_35, ww_103, ww_104, ww_45, ww_105, ww_36, ww_37, ww_38, ww_39, ww_40, ww_41, ww_42, ww_43, ww_44, ww_46, ww_47]
noncomputable def wsX1_read_r5 : List Cond := [ww_48, ww_49, ww_106, ww_107, ww_57, ww_108, ww_86, ww_87, ww_88, ww_89, ww_90, ww_91, ww_68, ww_69, ww_70, ww_55, ww_56, ww_58, ww_59, ww_60, ww_61, ww_50, ww_51, ww_52]
noncomputable def wsX1_read_r6 : List Cond := [ww_53, ww_54, ww_71, ww_72, ww_73, ww_65, ww_66, ww_67, ww_62, ww_63, ww_64, ww_92, ww_93, ww_94, ww_76, ww_77, ww_78, ww_79, ww_80, ww_81, ww_82, ww_74, ww_83, ww_84]
noncomputable def wsX1_read_r7 : List Cond := [ww_85, ww_75, ww_212, ww_213, ww_215, ww_201, ww_202, ww_203, ww_204, ww_205, ww_206, ww_207, ww_208, ww_209, ww_210, ww_199, ww_200, ww_225, ww_226, ww_227, ww_228, ww_229, ww_230, ww_231]
noncomputable def wsX1_read_r8 : List Cond := [ww_232, ww_220, ww_221, ww_222, ww_223, ww_142, ww_217, ww_218, ww_219, ww_143, ww_245, ww_172, ww_173, ww_174, ww_141, ww_138, ww_139, ww_140]
noncomputable def wsX1_read : List Cond := .code yX1_read cX1_read 4 (some .boolean) :: ((wsX1_read_r1 ++ (wsX1_read_r2 ++ (wsX1_read_r3 ++ (wsX1_read_r4 ++ (wsX1_read_r5 ++ (wsX1_read_r6 ++ (wsX1_read_r7 ++ wsX1_read_r8))))))) ++ wsX10 ++ wsX60 ++ wsX70)
noncomputable def wsX4_isOnRoad : List Cond := .code yX4_isOnRoad cX4_isOnRoad 2 (some .boolean) :: ([ww_246] ++ wsX40)
noncomputable def wsX4_loseWheel : List Cond := .code yX4_loseWheel cX4_loseWheel 3 (some .boolean) :: ([ww_247, ww_248, ww_41, ww_38, ww_42, ww_249, ww_250, ww_251, ww_252, ww_253, ww_246] ++ wsX40)
noncomputable def wsX4_quicken : List Cond := .code yX4_quicken cX4_quicken 3 (some .boolean) :: ([ww_254, ww_248, ww_41, ww_38, ww_42, ww_249, ww_250, ww_251, ww_252, ww_253, ww_246] ++ wsX40)
noncomputable def wsX4_canEngage : List Cond := .code yX4_canEngage cX4_canEngage 3 (some .boolean) :: ([ww_255, ww_249, ww_250, ww_251, ww_252, ww_253, ww_246] ++ wsX40)
noncomputable def wsX4_engage : List Cond := .code yX4_engage cX4_engage 3 (some .boolean) :: ([ww_255, ww_256, ww_257, ww_258, ww_252, ww_259, ww_249, ww_250, ww_251, ww_253, ww_246] ++ wsX40)
noncomputable def wsX7_snowAt : List Cond := .code yX7_snowAt cX7_snowAt 2 (some .int) :: ([ww_260, ww_261] ++ wsX70)
noncomputable def wsX4_isSomeoneOutWhoIsNotGreat : List Cond := .code yX4_isSomeoneOutWhoIsNotGreat cX4_isSomeoneOutWhoIsNotGreat 3 (some .boolean) :: ([ww_262, ww_263, ww_249, ww_250, ww_251, ww_252, ww_253, ww_246] ++ wsX70 ++ wsX40)
noncomputable def wsX4_holdingBack : List Cond := .code yX4_holdingBack cX4_holdingBack 6 (some .int) :: ([ww_262, ww_255, ww_263, ww_264, ww_265, ww_266, ww_267, ww_252, ww_268, ww_249, ww_250, ww_251, ww_253, ww_246] ++ wsX70 ++ wsX40)
noncomputable def wsX4_walk_r1 : List Cond := [ww_269, ww_262, ww_247, ww_246, ww_270, ww_248, ww_41, ww_38, ww_42, ww_254, ww_271, ww_37, ww_39, ww_272, ww_264, ww_273, ww_274, ww_275, ww_276, ww_277, ww_252, ww_278, ww_255, ww_263]
noncomputable def wsX4_walk_r2 : List Cond := [ww_265, ww_266, ww_267, ww_268, ww_249, ww_250, ww_251, ww_253]
noncomputable def wsX4_walk : List Cond := .code yX4_walk cX4_walk 8 none :: ((wsX4_walk_r1 ++ wsX4_walk_r2) ++ wsX40 ++ wsX70)
noncomputable def wsX4_atPlace : List Cond := .code yX4_atPlace cX4_atPlace 3 (some .int) :: ([ww_272] ++ wsX40)
noncomputable def wsX4_cookAtTable : List Cond := .code yX4_cookAtTable cX4_cookAtTable 4 (some .int) :: ([ww_262, ww_263, ww_279, ww_280, ww_281, ww_252, ww_282, ww_272] ++ wsX70 ++ wsX40)
noncomputable def wsX4_beginNight : List Cond := .code yX4_beginNight cX4_beginNight 4 none :: ([ww_274, ww_264, ww_262, ww_246, ww_283, ww_254, ww_284, ww_247, ww_255, ww_272, ww_273] ++ wsX40 ++ wsX70)
noncomputable def wsX4_eat_r1 : List Cond := [ww_274, ww_285, ww_271, ww_37, ww_38, ww_39, ww_286, ww_287, ww_288, ww_262, ww_289, ww_290, ww_291, ww_292, ww_293, ww_294, ww_147, ww_295, ww_6, ww_176, ww_7, ww_4, ww_5, ww_184]
noncomputable def wsX4_eat_r2 : List Cond := [ww_41, ww_42, ww_185, ww_186, ww_187, ww_188, ww_189, ww_177, ww_178, ww_179, ww_180, ww_181, ww_182, ww_183, ww_296, ww_297, ww_298, ww_252, ww_299, ww_264, ww_246, ww_283, ww_254, ww_284]
noncomputable def wsX4_eat_r3 : List Cond := [ww_247, ww_255, ww_272, ww_273]
noncomputable def wsX4_eat : List Cond := .code yX4_eat cX4_eat 4 none :: ((wsX4_eat_r1 ++ (wsX4_eat_r2 ++ wsX4_eat_r3)) ++ wsX40 ++ wsX70 ++ wsX00)
noncomputable def wsX4_passBySnow_r1 : List Cond := [ww_262, ww_264, ww_274, ww_300, ww_301, ww_302, ww_252, ww_303, ww_269, ww_247, ww_246, ww_270, ww_248, ww_41, ww_38, ww_42, ww_254, ww_271, ww_37, ww_39, ww_272, ww_273, ww_275, ww_276]
noncomputable def wsX4_passBySnow_r2 : List Cond := [ww_277, ww_278, ww_255, ww_263, ww_265, ww_266, ww_267, ww_268, ww_249, ww_250, ww_251, ww_253, ww_304, ww_305, ww_306, ww_307, ww_279, ww_280, ww_281, ww_282, ww_308, ww_309, ww_310, ww_311]
noncomputable def wsX4_passBySnow_r3 : List Cond := [ww_285, ww_286, ww_287, ww_288, ww_289, ww_290, ww_291, ww_292, ww_293, ww_294, ww_147, ww_295, ww_6, ww_176, ww_7, ww_4, ww_5, ww_184, ww_185, ww_186, ww_187, ww_188, ww_189, ww_177]
noncomputable def wsX4_passBySnow_r4 : List Cond := [ww_178, ww_179, ww_180, ww_181, ww_182, ww_183, ww_296, ww_297, ww_298, ww_299, ww_283, ww_284]
noncomputable def wsX4_passBySnow : List Cond := .code yX4_passBySnow cX4_passBySnow 4 (some .int) :: ((wsX4_passBySnow_r1 ++ (wsX4_passBySnow_r2 ++ (wsX4_passBySnow_r3 ++ wsX4_passBySnow_r4))) ++ wsX70 ++ wsX40 ++ wsX00)
noncomputable def wsX4_pass_r1 : List Cond := [ww_274, ww_312, ww_313, ww_314, ww_209, ww_315, ww_260, ww_261, ww_316, ww_317, ww_318, ww_252, ww_319, ww_262, ww_264, ww_300, ww_301, ww_302, ww_303, ww_269, ww_247, ww_246, ww_270, ww_248]
noncomputable def wsX4_pass_r2 : List Cond := [ww_41, ww_38, ww_42, ww_254, ww_271, ww_37, ww_39, ww_272, ww_273, ww_275, ww_276, ww_277, ww_278, ww_255, ww_263, ww_265, ww_266, ww_267, ww_268, ww_249, ww_250, ww_251, ww_253, ww_304]
noncomputable def wsX4_pass_r3 : List Cond := [ww_305, ww_306, ww_307, ww_279, ww_280, ww_281, ww_282, ww_308, ww_309, ww_310, ww_311, ww_285, ww_286, ww_287, ww_288, ww_289, ww_290, ww_291, ww_292, ww_293, ww_294, ww_147, ww_295, ww_6]
noncomputable def wsX4_pass_r4 : List Cond := [ww_176, ww_7, ww_4, ww_5, ww_184, ww_185, ww_186, ww_187, ww_188, ww_189, ww_177, ww_178, ww_179, ww_180, ww_181, ww_182, ww_183, ww_296, ww_297, ww_298, ww_299, ww_283, ww_284]
noncomputable def wsX4_pass : List Cond := .code yX4_pass cX4_pass 2 (some .int) :: ((wsX4_pass_r1 ++ (wsX4_pass_r2 ++ (wsX4_pass_r3 ++ wsX4_pass_r4))) ++ wsX40 ++ wsX70 ++ wsX00)
noncomputable def wsX1_play_r1 : List Cond := [ww_194, ww_192, ww_191, ww_193, ww_320, ww_321, ww_322, ww_252, ww_323, ww_247, ww_248, ww_41, ww_38, ww_42, ww_249, ww_250, ww_251, ww_253, ww_246, ww_324, ww_325, ww_326, ww_327, ww_254]
noncomputable def wsX1_play_r2 : List Cond := [ww_328, ww_329, ww_330, ww_331, ww_255, ww_256, ww_257, ww_258, ww_259, ww_332, ww_333, ww_334, ww_335, ww_274, ww_312, ww_313, ww_314, ww_209, ww_315, ww_260, ww_261, ww_316, ww_317, ww_318]
noncomputable def wsX1_play_r3 : List Cond := [ww_319, ww_262, ww_264, ww_300, ww_301, ww_302, ww_303, ww_269, ww_270, ww_271, ww_37, ww_39, ww_272, ww_273, ww_275, ww_276, ww_277, ww_278, ww_263, ww_265, ww_266, ww_267, ww_268, ww_304]
noncomputable def wsX1_play_r4 : List Cond := [ww_305, ww_306, ww_307, ww_279, ww_280, ww_281, ww_282, ww_308, ww_309, ww_310, ww_311, ww_285, ww_286, ww_287, ww_288, ww_289, ww_290, ww_291, ww_292, ww_293, ww_294, ww_147, ww_295, ww_6]
noncomputable def wsX1_play_r5 : List Cond := [ww_176, ww_7, ww_4, ww_5, ww_184, ww_185, ww_186, ww_187, ww_188, ww_189, ww_177, ww_178, ww_179, ww_180, ww_181, ww_182, ww_183, ww_296, ww_297, ww_298, ww_299, ww_283, ww_284]
noncomputable def wsX1_play : List Cond := .code yX1_play cX1_play 5 (some .boolean) :: ((wsX1_play_r1 ++ (wsX1_play_r2 ++ (wsX1_play_r3 ++ (wsX1_play_r4 ++ wsX1_play_r5)))) ++ wsX10 ++ wsX40 ++ wsX70 ++ wsX00)
noncomputable def wsX4_init : List Cond := .code yX4_init cX4_init 1 none :: ([ww_336, ww_1, ww_2, ww_3, ww_246, ww_254, ww_247, ww_255, ww_272, ww_273, ww_290, ww_291] ++ wsX40)
noncomputable def wsX5_init : List Cond := .code yX5_init cX5_init 1 none :: ([ww_337, ww_1, ww_2, ww_3, ww_338, ww_339, ww_340, ww_341] ++ wsX50)
noncomputable def wsX2_init_r1 : List Cond := [ww_342, ww_1, ww_2, ww_343, ww_344, ww_252, ww_345, ww_346, ww_347, ww_214, ww_348, ww_349, ww_350, ww_351, ww_352, ww_353, ww_354, ww_336, ww_3, ww_246, ww_254, ww_247, ww_255, ww_272]
noncomputable def wsX2_init_r2 : List Cond := [ww_273, ww_290, ww_291, ww_355, ww_356, ww_190, ww_191, ww_192, ww_193, ww_357, ww_358, ww_337, ww_338, ww_339, ww_340, ww_341]
noncomputable def wsX2_init : List Cond := .code yX2_init cX2_init 1 none :: ((wsX2_init_r1 ++ wsX2_init_r2) ++ wsX40 ++ wsX20 ++ wsX10 ++ wsX50)
noncomputable def wsX3_init : List Cond := .code yX3_init cX3_init 2 none :: ([ww_359, ww_1, ww_2, ww_360, ww_361, ww_344, ww_252, ww_353, ww_354, ww_336, ww_3, ww_246, ww_254, ww_247, ww_255, ww_272, ww_273, ww_290, ww_291] ++ wsX30 ++ wsX40)
noncomputable def wsX3_clear : List Cond := .code yX3_clear cX3_clear 1 none :: ([ww_362] ++ wsX30)
noncomputable def wsX4_copyFrom : List Cond := .code yX4_copyFrom cX4_copyFrom 2 none :: ([ww_246, ww_363, ww_196, ww_197, ww_198, ww_254, ww_247, ww_255, ww_272, ww_273, ww_290, ww_264, ww_289, ww_274, ww_286, ww_291] ++ wsX40)
noncomputable def wsX3_keep : List Cond := .code yX3_keep cX3_keep 2 none :: ([ww_362, ww_364, ww_361, ww_365, ww_366, ww_367, ww_252, ww_368, ww_246, ww_363, ww_196, ww_197, ww_198, ww_254, ww_247, ww_255, ww_272, ww_273, ww_290, ww_264, ww_289, ww_274, ww_286, ww_291] ++ wsX30 ++ wsX40)
noncomputable def wsX3_giveBack : List Cond := .code yX3_giveBack cX3_giveBack 2 (some .boolean) :: ([ww_362, ww_361, ww_364, ww_365, ww_366, ww_367, ww_252, ww_368, ww_246, ww_363, ww_196, ww_197, ww_198, ww_254, ww_247, ww_255, ww_272, ww_273, ww_290, ww_264, ww_289, ww_274, ww_286, ww_291] ++ wsX30 ++ wsX40)
noncomputable def wsX4_begin : List Cond := .code yX4_begin cX4_begin 3 none :: ([ww_289, ww_286, ww_291, ww_290, ww_296, ww_297, ww_298, ww_252, ww_299, ww_274, ww_264, ww_262, ww_246, ww_283, ww_254, ww_284, ww_247, ww_255, ww_272, ww_273] ++ wsX40 ++ wsX70)
noncomputable def wsX4_onRoadWithin : List Cond := .code yX4_onRoadWithin cX4_onRoadWithin 5 (some .int) :: ([ww_246, ww_249, ww_250, ww_251, ww_252, ww_253] ++ wsX40)
noncomputable def wsX4_noFarther : List Cond := .code yX4_noFarther cX4_noFarther 5 (some .int) :: ([ww_246] ++ wsX40)
noncomputable def wsX4_walkOn_r1 : List Cond := [ww_274, ww_312, ww_313, ww_314, ww_209, ww_315, ww_260, ww_261, ww_300, ww_301, ww_302, ww_252, ww_303, ww_269, ww_262, ww_247, ww_246, ww_270, ww_248, ww_41, ww_38, ww_42, ww_254, ww_271]
noncomputable def wsX4_walkOn_r2 : List Cond := [ww_37, ww_39, ww_272, ww_264, ww_273, ww_275, ww_276, ww_277, ww_278, ww_255, ww_263, ww_265, ww_266, ww_267, ww_268, ww_249, ww_250, ww_251, ww_253]
noncomputable def wsX4_walkOn : List Cond := .code yX4_walkOn cX4_walkOn 2 none :: ((wsX4_walkOn_r1 ++ wsX4_walkOn_r2) ++ wsX40 ++ wsX70)
noncomputable def wsX4_cameIn : List Cond := .code yX4_cameIn cX4_cameIn 4 (some .int) :: ([ww_273] ++ wsX40)
noncomputable def wsX4_goOn_r1 : List Cond := [ww_274, ww_269, ww_312, ww_313, ww_314, ww_209, ww_315, ww_260, ww_261, ww_316, ww_317, ww_318, ww_252, ww_319, ww_262, ww_264, ww_300, ww_301, ww_302, ww_303, ww_247, ww_246, ww_270, ww_248]
noncomputable def wsX4_goOn_r2 : List Cond := [ww_41, ww_38, ww_42, ww_254, ww_271, ww_37, ww_39, ww_272, ww_273, ww_275, ww_276, ww_277, ww_278, ww_255, ww_263, ww_265, ww_266, ww_267, ww_268, ww_249, ww_250, ww_251, ww_253, ww_304]
noncomputable def wsX4_goOn_r3 : List Cond := [ww_305, ww_306, ww_307, ww_279, ww_280, ww_281, ww_282, ww_308, ww_309, ww_310, ww_311, ww_285, ww_286, ww_287, ww_288, ww_289, ww_290, ww_291, ww_292, ww_293, ww_294, ww_147, ww_295, ww_6]
noncomputable def wsX4_goOn_r4 : List Cond := [ww_176, ww_7, ww_4, ww_5, ww_184, ww_185, ww_186, ww_187, ww_188, ww_189, ww_177, ww_178, ww_179, ww_180, ww_181, ww_182, ww_183, ww_296, ww_297, ww_298, ww_299, ww_283, ww_284]
noncomputable def wsX4_goOn : List Cond := .code yX4_goOn cX4_goOn 4 (some .int) :: ((wsX4_goOn_r1 ++ (wsX4_goOn_r2 ++ (wsX4_goOn_r3 ++ wsX4_goOn_r4))) ++ wsX40 ++ wsX70 ++ wsX00)
noncomputable def wsX5_clear : List Cond := .code yX5_clear cX5_clear 1 none :: ([ww_369] ++ wsX50)
noncomputable def wsX5_copyFrom : List Cond := .code yX5_copyFrom cX5_copyFrom 2 none :: ([ww_338, ww_370, ww_196, ww_197, ww_198, ww_339, ww_341, ww_369] ++ wsX50)
noncomputable def wsX5_add : List Cond := .code yX5_add cX5_add 4 (some .boolean) :: ([ww_369, ww_338, ww_339, ww_341] ++ wsX50)
noncomputable def wsX5_lastMinute : List Cond := .code yX5_lastMinute cX5_lastMinute 3 (some .int) :: ([ww_369, ww_338, ww_371, ww_37, ww_38, ww_39] ++ wsX50)
noncomputable def wsX5_fitting : List Cond := .code yX5_fitting cX5_fitting 6 (some .int) :: ([ww_369, ww_338, ww_372, ww_339, ww_341] ++ wsX50 ++ wsX40)
noncomputable def wsJ3_checkIndex_8e157 : List Cond := .code yJ3_checkIndex_8e157 cJ3_checkIndex_8e157 3 (some .int) :: ([])
noncomputable def wsJ0_checkIndex_df160 : List Cond := .code yJ0_checkIndex_df160 cJ0_checkIndex_df160 2 none :: ([ww_50, ww_373, ww_374, ww_53, ww_375])
noncomputable def wsJ1_charAt_3b067 : List Cond := .code yJ1_charAt_3b067 cJ1_charAt_3b067 2 (some .char) :: ([ww_376, ww_377, ww_34, ww_378, ww_50, ww_373, ww_374, ww_53, ww_375])
noncomputable def wsJ2_checkIndex_2214a : List Cond := .code yJ2_checkIndex_2214a cJ2_checkIndex_2214a 2 none :: ([ww_55, ww_56, ww_57, ww_58, ww_379, ww_377, ww_34, ww_378, ww_50, ww_373, ww_374, ww_53, ww_375])
noncomputable def wsJ2_charAt_3b067 : List Cond := .code yJ2_charAt_3b067 cJ2_charAt_3b067 2 (some .char) :: ([ww_380, ww_381, ww_57, ww_382, ww_55, ww_56, ww_58, ww_379, ww_377, ww_34, ww_378, ww_50, ww_373, ww_374, ww_53, ww_375, ww_65, ww_66, ww_67, ww_62, ww_63, ww_64])
noncomputable def wsJ0_charAt_5068e_r1 : List Cond := [ww_30, ww_95, ww_96, ww_97, ww_34, ww_98, ww_28, ww_29, ww_383, ww_384, ww_45, ww_385, ww_376, ww_377, ww_378, ww_50, ww_373, ww_374, ww_53, ww_375, ww_386, ww_387, ww_57, ww_388]
noncomputable def wsJ0_charAt_5068e_r2 : List Cond := [ww_380, ww_381, ww_382, ww_55, ww_56, ww_58, ww_379, ww_65, ww_66, ww_67, ww_62, ww_63, ww_64]
noncomputable def wsJ0_charAt_5068e : List Cond := .code yJ0_charAt_5068e cJ0_charAt_5068e 2 (some .char) :: ((wsJ0_charAt_5068e_r1 ++ wsJ0_charAt_5068e_r2))
noncomputable def wsX6_init_r1 : List Cond := [ww_389, ww_1, ww_2, ww_390, ww_14, ww_391, ww_16, ww_392, ww_100, ww_101, ww_34, ww_102, ww_30, ww_31, ww_32, ww_33, ww_35, ww_28, ww_29, ww_393, ww_394, ww_395, ww_396, ww_95]
noncomputable def wsX6_init_r2 : List Cond := [ww_96, ww_97, ww_98, ww_383, ww_384, ww_45, ww_385, ww_376, ww_377, ww_378, ww_50, ww_373, ww_374, ww_53, ww_375, ww_386, ww_387, ww_57, ww_388, ww_380, ww_381, ww_382, ww_55, ww_56]
noncomputable def wsX6_init_r3 : List Cond := [ww_58, ww_379, ww_65, ww_66, ww_67, ww_62, ww_63, ww_64, ww_18, ww_19, ww_20, ww_21, ww_22, ww_23, ww_24, ww_10]
noncomputable def wsX6_init : List Cond := .code yX6_init cX6_init 6 none :: ((wsX6_init_r1 ++ (wsX6_init_r2 ++ wsX6_init_r3)) ++ wsX60)
noncomputable def wsX6_put : List Cond := .code yX6_put cX6_put 6 none :: ([ww_397, ww_13, ww_14] ++ wsX60)
noncomputable def wsX6_clear : List Cond := .code yX6_clear cX6_clear 1 none :: ([ww_13] ++ wsX60)
noncomputable def wsX6_rewind_r1 : List Cond := [ww_12, ww_9, ww_143, ww_130, ww_131, ww_20, ww_132, ww_13, ww_14, ww_8, ww_17, ww_15, ww_18, ww_19, ww_21, ww_113, ww_114, ww_115, ww_116, ww_11, ww_16, ww_22, ww_23, ww_24]
noncomputable def wsX6_rewind_r2 : List Cond := [ww_10, ww_25, ww_26, ww_27, ww_117, ww_118, ww_119, ww_120, ww_121, ww_122, ww_123, ww_34, ww_124, ww_109, ww_110, ww_111, ww_112, ww_30, ww_95, ww_96, ww_97, ww_98, ww_28, ww_29]
noncomputable def wsX6_rewind_r3 : List Cond := [ww_99, ww_100, ww_101, ww_102, ww_31, ww_32, ww_33, ww_35, ww_103, ww_104, ww_45, ww_105, ww_36, ww_37, ww_38, ww_39, ww_40, ww_41, ww_42, ww_43, ww_44, ww_46, ww_47, ww_48]
noncomputable def wsX6_rewind_r4 : List Cond := [ww_49, ww_106, ww_107, ww_57, ww_108, ww_86, ww_87, ww_88, ww_89, ww_90, ww_91, ww_68, ww_69, ww_70, ww_55, ww_56, ww_58, ww_59, ww_60, ww_61, ww_50, ww_51, ww_52, ww_53]
noncomputable def wsX6_rewind_r5 : List Cond := [ww_54, ww_71, ww_72, ww_73, ww_65, ww_66, ww_67, ww_62, ww_63, ww_64, ww_92, ww_93, ww_94, ww_76, ww_77, ww_78, ww_79, ww_80, ww_81, ww_82, ww_74, ww_83, ww_84, ww_85]
noncomputable def wsX6_rewind_r6 : List Cond := [ww_75]
noncomputable def wsX6_rewind : List Cond := .code yX6_rewind cX6_rewind 1 none :: ((wsX6_rewind_r1 ++ (wsX6_rewind_r2 ++ (wsX6_rewind_r3 ++ (wsX6_rewind_r4 ++ (wsX6_rewind_r5 ++ wsX6_rewind_r6))))) ++ wsX60)
noncomputable def wsX6_takeWord_r1 : List Cond := [ww_398, ww_134, ww_135, ww_20, ww_136, ww_15, ww_17, ww_142, ww_126, ww_127, ww_128, ww_8, ww_9, ww_143, ww_130, ww_131, ww_132, ww_12, ww_13, ww_14, ww_18, ww_19, ww_21, ww_113]
noncomputable def wsX6_takeWord_r2 : List Cond := [ww_114, ww_115, ww_116, ww_11, ww_16, ww_22, ww_23, ww_24, ww_10, ww_25, ww_26, ww_27, ww_117, ww_118, ww_119, ww_120, ww_121, ww_122, ww_123, ww_34, ww_124, ww_109, ww_110, ww_111]
noncomputable def wsX6_takeWord_r3 : List Cond := [ww_112, ww_30, ww_95, ww_96, ww_97, ww_98, ww_28, ww_29, ww_99, ww_100, ww_101, ww_102, ww_31, ww_32, ww_33, ww_35, ww_103, ww_104, ww_45, ww_105, ww_36, ww_37, ww_38, ww_39]
noncomputable def wsX6_takeWord_r4 : List Cond := [ww_40, ww_41, ww_42, ww_43, ww_44, ww_46, ww_47, ww_48, ww_49, ww_106, ww_107, ww_57, ww_108, ww_86, ww_87, ww_88, ww_89, ww_90, ww_91, ww_68, ww_69, ww_70, ww_55, ww_56]
noncomputable def wsX6_takeWord_r5 : List Cond := [ww_58, ww_59, ww_60, ww_61, ww_50, ww_51, ww_52, ww_53, ww_54, ww_71, ww_72, ww_73, ww_65, ww_66, ww_67, ww_62, ww_63, ww_64, ww_92, ww_93, ww_94, ww_76, ww_77, ww_78]
noncomputable def wsX6_takeWord_r6 : List Cond := [ww_79, ww_80, ww_81, ww_82, ww_74, ww_83, ww_84, ww_85, ww_75]
noncomputable def wsX6_takeWord : List Cond := .code yX6_takeWord cX6_takeWord 2 (some .boolean) :: ((wsX6_takeWord_r1 ++ (wsX6_takeWord_r2 ++ (wsX6_takeWord_r3 ++ (wsX6_takeWord_r4 ++ (wsX6_takeWord_r5 ++ wsX6_takeWord_r6))))) ++ wsX60)
noncomputable def wsX7_init : List Cond := .code yX7_init cX7_init 1 none :: ([ww_399, ww_1, ww_2, ww_391, ww_200, ww_3, ww_400, ww_401, ww_402, ww_403, ww_261, ww_404, ww_405, ww_147, ww_406, ww_407, ww_408, ww_409, ww_410, ww_0, ww_4, ww_5, ww_6] ++ wsX70 ++ wsX00)
noncomputable def wsX7_clear : List Cond := .code yX7_clear cX7_clear 1 none :: ([ww_406, ww_199, ww_260, ww_407, ww_408, ww_411, ww_412, ww_413, ww_414, ww_415, ww_147, ww_416, ww_7] ++ wsX70 ++ wsX00)
noncomputable def wsX7_readMeasure_r1 : List Cond := [ww_417, ww_418, ww_419, ww_20, ww_420, ww_398, ww_134, ww_135, ww_136, ww_15, ww_17, ww_142, ww_126, ww_127, ww_128, ww_8, ww_9, ww_143, ww_130, ww_131, ww_132, ww_12, ww_13, ww_14]
noncomputable def wsX7_readMeasure_r2 : List Cond := [ww_18, ww_19, ww_21, ww_113, ww_114, ww_115, ww_116, ww_11, ww_16, ww_22, ww_23, ww_24, ww_10, ww_25, ww_26, ww_27, ww_117, ww_118, ww_119, ww_120, ww_121, ww_122, ww_123, ww_34]
noncomputable def wsX7_readMeasure_r3 : List Cond := [ww_124, ww_109, ww_110, ww_111, ww_112, ww_30, ww_95, ww_96, ww_97, ww_98, ww_28, ww_29, ww_99, ww_100, ww_101, ww_102, ww_31, ww_32, ww_33, ww_35, ww_103, ww_104, ww_45, ww_105]
noncomputable def wsX7_readMeasure_r4 : List Cond := [ww_36, ww_37, ww_38, ww_39, ww_40, ww_41, ww_42, ww_43, ww_44, ww_46, ww_47, ww_48, ww_49, ww_106, ww_107, ww_57, ww_108, ww_86, ww_87, ww_88, ww_89, ww_90, ww_91, ww_68]
noncomputable def wsX7_readMeasure_r5 : List Cond := [ww_69, ww_70, ww_55, ww_56, ww_58, ww_59, ww_60, ww_61, ww_50, ww_51, ww_52, ww_53, ww_54, ww_71, ww_72, ww_73, ww_65, ww_66, ww_67, ww_62, ww_63, ww_64, ww_92, ww_93]
noncomputable def wsX7_readMeasure_r6 : List Cond := [ww_94, ww_76, ww_77, ww_78, ww_79, ww_80, ww_81, ww_82, ww_74, ww_83, ww_84, ww_85, ww_75, ww_421, ww_230, ww_231, ww_232, ww_220, ww_221, ww_222, ww_223, ww_217, ww_218, ww_219]
noncomputable def wsX7_readMeasure : List Cond := .code yX7_readMeasure cX7_readMeasure 4 (some .int) :: ((wsX7_readMeasure_r1 ++ (wsX7_readMeasure_r2 ++ (wsX7_readMeasure_r3 ++ (wsX7_readMeasure_r4 ++ (wsX7_readMeasure_r5 ++ wsX7_readMeasure_r6))))) ++ wsX60)
noncomputable def wsX7_readGuest_r1 : List Cond := [ww_199, ww_200, ww_422, ww_400, ww_401, ww_402, ww_403, ww_423, ww_126, ww_127, ww_20, ww_128, ww_8, ww_9, ww_424, ww_130, ww_131, ww_132, ww_12, ww_13, ww_14, ww_17, ww_15, ww_18]
noncomputable def wsX7_readGuest_r2 : List Cond := [ww_19, ww_21, ww_113, ww_114, ww_115, ww_116, ww_11, ww_16, ww_22, ww_23, ww_24, ww_10, ww_25, ww_26, ww_27, ww_117, ww_118, ww_119, ww_120, ww_121, ww_122, ww_123, ww_34, ww_124]
noncomputable def wsX7_readGuest_r3 : List Cond := [ww_109, ww_110, ww_111, ww_112, ww_30, ww_95, ww_96, ww_97, ww_98, ww_28, ww_29, ww_99, ww_100, ww_101, ww_102, ww_31, ww_32, ww_33, ww_35, ww_103, ww_104, ww_45, ww_105, ww_36]
noncomputable def wsX7_readGuest_r4 : List Cond := [ww_37, ww_38, ww_39, ww_40, ww_41, ww_42, ww_43, ww_44, ww_46, ww_47, ww_48, ww_49, ww_106, ww_107, ww_57, ww_108, ww_86, ww_87, ww_88, ww_89, ww_90, ww_91, ww_68, ww_69]
noncomputable def wsX7_readGuest_r5 : List Cond := [ww_70, ww_55, ww_56, ww_58, ww_59, ww_60, ww_61, ww_50, ww_51, ww_52, ww_53, ww_54, ww_71, ww_72, ww_73, ww_65, ww_66, ww_67, ww_62, ww_63, ww_64, ww_92, ww_93, ww_94]
noncomputable def wsX7_readGuest_r6 : List Cond := [ww_76, ww_77, ww_78, ww_79, ww_80, ww_81, ww_82, ww_74, ww_83, ww_84, ww_85, ww_75, ww_425, ww_203, ww_204, ww_205, ww_426, ww_207, ww_208, ww_209, ww_210, ww_427, ww_168, ww_169]
noncomputable def wsX7_readGuest_r7 : List Cond := [ww_170, ww_428, ww_429, ww_430, ww_417, ww_418, ww_419, ww_420, ww_398, ww_134, ww_135, ww_136, ww_142, ww_143, ww_421, ww_230, ww_231, ww_232, ww_220, ww_221, ww_222, ww_223, ww_217, ww_218]
noncomputable def wsX7_readGuest_r8 : List Cond := [ww_219]
noncomputable def wsX7_readGuest : List Cond := .code yX7_readGuest cX7_readGuest 4 (some .boolean) :: ((wsX7_readGuest_r1 ++ (wsX7_readGuest_r2 ++ (wsX7_readGuest_r3 ++ (wsX7_readGuest_r4 ++ (wsX7_readGuest_r5 ++ (wsX7_readGuest_r6 ++ (wsX7_readGuest_r7 ++ wsX7_readGuest_r8))))))) ++ wsX70 ++ wsX60)
noncomputable def wsX7_readBend_r1 : List Cond := [ww_411, ww_407, ww_423, ww_126, ww_127, ww_20, ww_128, ww_8, ww_9, ww_428, ww_429, ww_209, ww_430, ww_417, ww_418, ww_419, ww_420, ww_398, ww_134, ww_135, ww_136, ww_15, ww_17, ww_142]
noncomputable def wsX7_readBend_r2 : List Cond := [ww_143, ww_130, ww_131, ww_132, ww_12, ww_13, ww_14, ww_18, ww_19, ww_21, ww_113, ww_114, ww_115, ww_116, ww_11, ww_16, ww_22, ww_23, ww_24, ww_10, ww_25, ww_26, ww_27, ww_117]
noncomputable def wsX7_readBend_r3 : List Cond := [ww_118, ww_119, ww_120, ww_121, ww_122, ww_123, ww_34, ww_124, ww_109, ww_110, ww_111, ww_112, ww_30, ww_95, ww_96, ww_97, ww_98, ww_28, ww_29, ww_99, ww_100, ww_101, ww_102, ww_31]
noncomputable def wsX7_readBend_r4 : List Cond := [ww_32, ww_33, ww_35, ww_103, ww_104, ww_45, ww_105, ww_36, ww_37, ww_38, ww_39, ww_40, ww_41, ww_42, ww_43, ww_44, ww_46, ww_47, ww_48, ww_49, ww_106, ww_107, ww_57, ww_108]
noncomputable def wsX7_readBend_r5 : List Cond := [ww_86, ww_87, ww_88, ww_89, ww_90, ww_91, ww_68, ww_69, ww_70, ww_55, ww_56, ww_58, ww_59, ww_60, ww_61, ww_50, ww_51, ww_52, ww_53, ww_54, ww_71, ww_72, ww_73, ww_65]
noncomputable def wsX7_readBend_r6 : List Cond := [ww_66, ww_67, ww_62, ww_63, ww_64, ww_92, ww_93, ww_94, ww_76, ww_77, ww_78, ww_79, ww_80, ww_81, ww_82, ww_74, ww_83, ww_84, ww_85, ww_75, ww_421, ww_230, ww_231, ww_232]
noncomputable def wsX7_readBend_r7 : List Cond := [ww_220, ww_221, ww_222, ww_223, ww_217, ww_218, ww_219]
noncomputable def wsX7_readBend : List Cond := .code yX7_readBend cX7_readBend 2 (some .boolean) :: ((wsX7_readBend_r1 ++ (wsX7_readBend_r2 ++ (wsX7_readBend_r3 ++ (wsX7_readBend_r4 ++ (wsX7_readBend_r5 ++ (wsX7_readBend_r6 ++ wsX7_readBend_r7)))))) ++ wsX70 ++ wsX60)
noncomputable def wsX7_readHour_r1 : List Cond := [ww_412, ww_408, ww_423, ww_126, ww_127, ww_20, ww_128, ww_8, ww_9, ww_428, ww_429, ww_209, ww_430, ww_417, ww_418, ww_419, ww_420, ww_398, ww_134, ww_135, ww_136, ww_15, ww_17, ww_142]
noncomputable def wsX7_readHour_r2 : List Cond := [ww_143, ww_130, ww_131, ww_132, ww_12, ww_13, ww_14, ww_18, ww_19, ww_21, ww_113, ww_114, ww_115, ww_116, ww_11, ww_16, ww_22, ww_23, ww_24, ww_10, ww_25, ww_26, ww_27, ww_117]
noncomputable def wsX7_readHour_r3 : List Cond := [ww_118, ww_119, ww_120, ww_121, ww_122, ww_123, ww_34, ww_124, ww_109, ww_110, ww_111, ww_112, ww_30, ww_95, ww_96, ww_97, ww_98, ww_28, ww_29, ww_99, ww_100, ww_101, ww_102, ww_31]
noncomputable def wsX7_readHour_r4 : List Cond := [ww_32, ww_33, ww_35, ww_103, ww_104, ww_45, ww_105, ww_36, ww_37, ww_38, ww_39, ww_40, ww_41, ww_42, ww_43, ww_44, ww_46, ww_47, ww_48, ww_49, ww_106, ww_107, ww_57, ww_108]
noncomputable def wsX7_readHour_r5 : List Cond := [ww_86, ww_87, ww_88, ww_89, ww_90, ww_91, ww_68, ww_69, ww_70, ww_55, ww_56, ww_58, ww_59, ww_60, ww_61, ww_50, ww_51, ww_52, ww_53, ww_54, ww_71, ww_72, ww_73, ww_65]
noncomputable def wsX7_readHour_r6 : List Cond := [ww_66, ww_67, ww_62, ww_63, ww_64, ww_92, ww_93, ww_94, ww_76, ww_77, ww_78, ww_79, ww_80, ww_81, ww_82, ww_74, ww_83, ww_84, ww_85, ww_75, ww_421, ww_230, ww_231, ww_232]
noncomputable def wsX7_readHour_r7 : List Cond := [ww_220, ww_221, ww_222, ww_223, ww_217, ww_218, ww_219]
noncomputable def wsX7_readHour : List Cond := .code yX7_readHour cX7_readHour 2 (some .boolean) :: ((wsX7_readHour_r1 ++ (wsX7_readHour_r2 ++ (wsX7_readHour_r3 ++ (wsX7_readHour_r4 ++ (wsX7_readHour_r5 ++ (wsX7_readHour_r6 ++ wsX7_readHour_r7)))))) ++ wsX70 ++ wsX60)
noncomputable def wsX7_readSnow_r1 : List Cond := [ww_260, ww_261, ww_431, ww_423, ww_126, ww_127, ww_20, ww_128, ww_8, ww_9, ww_424, ww_130, ww_131, ww_132, ww_12, ww_13, ww_14, ww_17, ww_15, ww_18, ww_19, ww_21, ww_113, ww_114]
noncomputable def wsX7_readSnow_r2 : List Cond := [ww_115, ww_116, ww_11, ww_16, ww_22, ww_23, ww_24, ww_10, ww_25, ww_26, ww_27, ww_117, ww_118, ww_119, ww_120, ww_121, ww_122, ww_123, ww_34, ww_124, ww_109, ww_110, ww_111, ww_112]
noncomputable def wsX7_readSnow_r3 : List Cond := [ww_30, ww_95, ww_96, ww_97, ww_98, ww_28, ww_29, ww_99, ww_100, ww_101, ww_102, ww_31, ww_32, ww_33, ww_35, ww_103, ww_104, ww_45, ww_105, ww_36, ww_37, ww_38, ww_39, ww_40]
noncomputable def wsX7_readSnow_r4 : List Cond := [ww_41, ww_42, ww_43, ww_44, ww_46, ww_47, ww_48, ww_49, ww_106, ww_107, ww_57, ww_108, ww_86, ww_87, ww_88, ww_89, ww_90, ww_91, ww_68, ww_69, ww_70, ww_55, ww_56, ww_58]
noncomputable def wsX7_readSnow_r5 : List Cond := [ww_59, ww_60, ww_61, ww_50, ww_51, ww_52, ww_53, ww_54, ww_71, ww_72, ww_73, ww_65, ww_66, ww_67, ww_62, ww_63, ww_64, ww_92, ww_93, ww_94, ww_76, ww_77, ww_78, ww_79]
noncomputable def wsX7_readSnow_r6 : List Cond := [ww_80, ww_81, ww_82, ww_74, ww_83, ww_84, ww_85, ww_75, ww_432, ww_164, ww_165, ww_166, ww_433, ww_221, ww_222, ww_223, ww_142, ww_217, ww_218, ww_219]
noncomputable def wsX7_readSnow : List Cond := .code yX7_readSnow cX7_readSnow 3 (some .boolean) :: ((wsX7_readSnow_r1 ++ (wsX7_readSnow_r2 ++ (wsX7_readSnow_r3 ++ (wsX7_readSnow_r4 ++ (wsX7_readSnow_r5 ++ wsX7_readSnow_r6))))) ++ wsX70 ++ wsX60)
noncomputable def wsX7_read_r1 : List Cond := [ww_406, ww_434, ww_435, ww_436, ww_209, ww_437, ww_199, ww_260, ww_407, ww_408, ww_411, ww_412, ww_413, ww_414, ww_415, ww_147, ww_416, ww_7, ww_438, ww_238, ww_239, ww_20, ww_240, ww_15]
noncomputable def wsX7_read_r2 : List Cond := [ww_427, ww_168, ww_169, ww_170, ww_17, ww_439, ww_440, ww_441, ww_442, ww_200, ww_422, ww_400, ww_401, ww_402, ww_403, ww_423, ww_126, ww_127, ww_128, ww_8, ww_9, ww_424, ww_130, ww_131]
noncomputable def wsX7_read_r3 : List Cond := [ww_132, ww_12, ww_13, ww_14, ww_18, ww_19, ww_21, ww_113, ww_114, ww_115, ww_116, ww_11, ww_16, ww_22, ww_23, ww_24, ww_10, ww_25, ww_26, ww_27, ww_117, ww_118, ww_119, ww_120]
noncomputable def wsX7_read_r4 : List Cond := [ww_121, ww_122, ww_123, ww_34, ww_124, ww_109, ww_110, ww_111, ww_112, ww_30, ww_95, ww_96, ww_97, ww_98, ww_28, ww_29, ww_99, ww_100, ww_101, ww_102, ww_31, ww_32, ww_33, ww_35]
noncomputable def wsX7_read_r5 : List Cond := [ww_103, ww_104, ww_45, ww_105, ww_36, ww_37, ww_38, ww_39, ww_40, ww_41, ww_42, ww_43, ww_44, ww_46, ww_47, ww_48, ww_49, ww_106, ww_107, ww_57, ww_108, ww_86, ww_87, ww_88]
noncomputable def wsX7_read_r6 : List Cond := [ww_89, ww_90, ww_91, ww_68, ww_69, ww_70, ww_55, ww_56, ww_58, ww_59, ww_60, ww_61, ww_50, ww_51, ww_52, ww_53, ww_54, ww_71, ww_72, ww_73, ww_65, ww_66, ww_67, ww_62]
noncomputable def wsX7_read_r7 : List Cond := [ww_63, ww_64, ww_92, ww_93, ww_94, ww_76, ww_77, ww_78, ww_79, ww_80, ww_81, ww_82, ww_74, ww_83, ww_84, ww_85, ww_75, ww_425, ww_203, ww_204, ww_205, ww_426, ww_207, ww_208]
noncomputable def wsX7_read_r8 : List Cond := [ww_210, ww_428, ww_429, ww_430, ww_417, ww_418, ww_419, ww_420, ww_398, ww_134, ww_135, ww_136, ww_142, ww_143, ww_421, ww_230, ww_231, ww_232, ww_220, ww_221, ww_222, ww_223, ww_217, ww_218]
noncomputable def wsX7_read_r9 : List Cond := [ww_219, ww_443, ww_444, ww_445, ww_446, ww_447, ww_448, ww_449, ww_450, ww_451, ww_452, ww_453, ww_454, ww_261, ww_431, ww_432, ww_164, ww_165, ww_166, ww_433, ww_455, ww_456, ww_457, ww_458]
noncomputable def wsX7_read_r10 : List Cond := [ww_125, ww_129, ww_459, ww_155, ww_156, ww_175, ww_144, ww_145, ww_146, ww_148, ww_149, ww_150, ww_133, ww_137, ww_138, ww_139, ww_140, ww_151, ww_152, ww_153, ww_154, ww_157, ww_158, ww_159]
noncomputable def wsX7_read_r11 : List Cond := [ww_160, ww_4, ww_161, ww_162, ww_163, ww_167, ww_171, ww_172, ww_173, ww_174, ww_141, ww_460]
noncomputable def wsX7_read : List Cond := .code yX7_read cX7_read 4 (some .boolean) :: ((wsX7_read_r1 ++ (wsX7_read_r2 ++ (wsX7_read_r3 ++ (wsX7_read_r4 ++ (wsX7_read_r5 ++ (wsX7_read_r6 ++ (wsX7_read_r7 ++ (wsX7_read_r8 ++ (wsX7_read_r9 ++ (wsX7_read_r10 ++ wsX7_read_r11)))))))))) ++ wsX70 ++ wsX00 ++ wsX60)
noncomputable def wsX8_init_r1 : List Cond := [ww_461, ww_1, ww_2, ww_462, ww_463, ww_20, ww_464, ww_465, ww_466, ww_209, ww_467, ww_468, ww_469, ww_347, ww_214, ww_470, ww_471, ww_472, ww_344, ww_252, ww_473, ww_474, ww_475, ww_350]
noncomputable def wsX8_init_r2 : List Cond := [ww_351, ww_476, ww_477, ww_478, ww_479, ww_480, ww_481, ww_482, ww_483, ww_484, ww_485, ww_486, ww_487, ww_389, ww_390, ww_14, ww_391, ww_16, ww_392, ww_100, ww_101, ww_34, ww_102, ww_30]
noncomputable def wsX8_init_r3 : List Cond := [ww_31, ww_32, ww_33, ww_35, ww_28, ww_29, ww_393, ww_394, ww_395, ww_396, ww_95, ww_96, ww_97, ww_98, ww_383, ww_384, ww_45, ww_385, ww_376, ww_377, ww_378, ww_50, ww_373, ww_374]
noncomputable def wsX8_init_r4 : List Cond := [ww_53, ww_375, ww_386, ww_387, ww_57, ww_388, ww_380, ww_381, ww_382, ww_55, ww_56, ww_58, ww_379, ww_65, ww_66, ww_67, ww_62, ww_63, ww_64, ww_18, ww_19, ww_21, ww_22, ww_23]
noncomputable def wsX8_init_r5 : List Cond := [ww_24, ww_10, ww_488, ww_489, ww_399, ww_200, ww_3, ww_400, ww_401, ww_402, ww_403, ww_261, ww_404, ww_405, ww_147, ww_406, ww_407, ww_408, ww_409, ww_410, ww_0, ww_4, ww_5, ww_6]
noncomputable def wsX8_init_r6 : List Cond := [ww_355, ww_356, ww_190, ww_191, ww_192, ww_193, ww_353, ww_354, ww_336, ww_246, ww_254, ww_247, ww_255, ww_272, ww_273, ww_290, ww_291, ww_357, ww_358, ww_337, ww_338, ww_339, ww_340, ww_341]
noncomputable def wsX8_init_r7 : List Cond := [ww_490, ww_491, ww_492, ww_359, ww_360, ww_361, ww_493, ww_494, ww_342, ww_343, ww_345, ww_346, ww_348, ww_349, ww_352]
noncomputable def wsX8_init : List Cond := .code yX8_init cX8_init 2 none :: ((wsX8_init_r1 ++ (wsX8_init_r2 ++ (wsX8_init_r3 ++ (wsX8_init_r4 ++ (wsX8_init_r5 ++ (wsX8_init_r6 ++ wsX8_init_r7)))))) ++ wsX60 ++ wsX80 ++ wsX70 ++ wsX10 ++ wsX40 ++ wsX50 ++ wsX30 ++ wsX20 ++ wsX00)
noncomputable def wsX8_feed : List Cond := .code yX8_feed cX8_feed 7 (some .int) :: ([ww_464, ww_495, ww_496, ww_497, ww_498, ww_20, ww_499, ww_397, ww_13, ww_14] ++ wsX80 ++ wsX60)
noncomputable def wsX8_beginAnew_r1 : List Cond := [ww_473, ww_467, ww_470, ww_476, ww_480, ww_482, ww_500, ww_501, ww_502, ww_503, ww_252, ww_504, ww_289, ww_286, ww_291, ww_290, ww_296, ww_297, ww_298, ww_299, ww_274, ww_264, ww_262, ww_246]
noncomputable def wsX8_beginAnew_r2 : List Cond := [ww_283, ww_254, ww_284, ww_247, ww_255, ww_272, ww_273, ww_505, ww_234, ww_235, ww_214, ww_236, ww_194, ww_506, ww_507, ww_508, ww_351, ww_509, ww_369, ww_510, ww_511, ww_512, ww_479, ww_513]
noncomputable def wsX8_beginAnew_r3 : List Cond := [ww_362]
noncomputable def wsX8_beginAnew : List Cond := .code yX8_beginAnew cX8_beginAnew 2 none :: ((wsX8_beginAnew_r1 ++ (wsX8_beginAnew_r2 ++ wsX8_beginAnew_r3)) ++ wsX80 ++ wsX20 ++ wsX40 ++ wsX70 ++ wsX10 ++ wsX50 ++ wsX30)
noncomputable def wsX8_supper_r1 : List Cond := [ww_464, ww_468, ww_514, ww_467, ww_515, ww_516, ww_517, ww_20, ww_518, ww_12, ww_9, ww_143, ww_130, ww_131, ww_132, ww_13, ww_14, ww_8, ww_17, ww_15, ww_18, ww_19, ww_21, ww_113]
noncomputable def wsX8_supper_r2 : List Cond := [ww_114, ww_115, ww_116, ww_11, ww_16, ww_22, ww_23, ww_24, ww_10, ww_25, ww_26, ww_27, ww_117, ww_118, ww_119, ww_120, ww_121, ww_122, ww_123, ww_34, ww_124, ww_109, ww_110, ww_111]
noncomputable def wsX8_supper_r3 : List Cond := [ww_112, ww_30, ww_95, ww_96, ww_97, ww_98, ww_28, ww_29, ww_99, ww_100, ww_101, ww_102, ww_31, ww_32, ww_33, ww_35, ww_103, ww_104, ww_45, ww_105, ww_36, ww_37, ww_38, ww_39]
noncomputable def wsX8_supper_r4 : List Cond := [ww_40, ww_41, ww_42, ww_43, ww_44, ww_46, ww_47, ww_48, ww_49, ww_106, ww_107, ww_57, ww_108, ww_86, ww_87, ww_88, ww_89, ww_90, ww_91, ww_68, ww_69, ww_70, ww_55, ww_56]
noncomputable def wsX8_supper_r5 : List Cond := [ww_58, ww_59, ww_60, ww_61, ww_50, ww_51, ww_52, ww_53, ww_54, ww_71, ww_72, ww_73, ww_65, ww_66, ww_67, ww_62, ww_63, ww_64, ww_92, ww_93, ww_94, ww_76, ww_77, ww_78]
noncomputable def wsX8_supper_r6 : List Cond := [ww_79, ww_80, ww_81, ww_82, ww_74, ww_83, ww_84, ww_85, ww_75, ww_519, ww_520, ww_521, ww_209, ww_522, ww_406, ww_434, ww_435, ww_436, ww_437, ww_199, ww_260, ww_407, ww_408, ww_411]
noncomputable def wsX8_supper_r7 : List Cond := [ww_412, ww_413, ww_414, ww_415, ww_147, ww_416, ww_7, ww_438, ww_238, ww_239, ww_240, ww_427, ww_168, ww_169, ww_170, ww_439, ww_440, ww_441, ww_442, ww_200, ww_422, ww_400, ww_401, ww_402]
noncomputable def wsX8_supper_r8 : List Cond := [ww_403, ww_423, ww_126, ww_127, ww_128, ww_424, ww_425, ww_203, ww_204, ww_205, ww_426, ww_207, ww_208, ww_210, ww_428, ww_429, ww_430, ww_417, ww_418, ww_419, ww_420, ww_398, ww_134, ww_135]
noncomputable def wsX8_supper_r9 : List Cond := [ww_136, ww_142, ww_421, ww_230, ww_231, ww_232, ww_220, ww_221, ww_222, ww_223, ww_217, ww_218, ww_219, ww_443, ww_444, ww_445, ww_446, ww_447, ww_448, ww_449, ww_450, ww_451, ww_452, ww_453]
noncomputable def wsX8_supper_r10 : List Cond := [ww_454, ww_261, ww_431, ww_432, ww_164, ww_165, ww_166, ww_433, ww_455, ww_456, ww_457, ww_458, ww_125, ww_129, ww_459, ww_155, ww_156, ww_175, ww_144, ww_145, ww_146, ww_148, ww_149, ww_150]
noncomputable def wsX8_supper_r11 : List Cond := [ww_133, ww_137, ww_138, ww_139, ww_140, ww_151, ww_152, ww_153, ww_154, ww_157, ww_158, ww_159, ww_160, ww_4, ww_161, ww_162, ww_163, ww_167, ww_171, ww_172, ww_173, ww_174, ww_141, ww_460]
noncomputable def wsX8_supper_r12 : List Cond := [ww_523, ww_524, ww_525, ww_526, ww_527, ww_528, ww_529, ww_530, ww_473, ww_470, ww_476, ww_480, ww_482, ww_500, ww_501, ww_502, ww_503, ww_252, ww_504, ww_289, ww_286, ww_291, ww_290, ww_296]
noncomputable def wsX8_supper_r13 : List Cond := [ww_297, ww_298, ww_299, ww_274, ww_264, ww_262, ww_246, ww_283, ww_254, ww_284, ww_247, ww_255, ww_272, ww_273, ww_505, ww_234, ww_235, ww_214, ww_236, ww_194, ww_506, ww_507, ww_508, ww_351]
noncomputable def wsX8_supper_r14 : List Cond := [ww_509, ww_369, ww_510, ww_511, ww_512, ww_479, ww_513, ww_362]
noncomputable def wsX8_supper : List Cond := .code yX8_supper cX8_supper 3 (some .int) :: ((wsX8_supper_r1 ++ (wsX8_supper_r2 ++ (wsX8_supper_r3 ++ (wsX8_supper_r4 ++ (wsX8_supper_r5 ++ (wsX8_supper_r6 ++ (wsX8_supper_r7 ++ (wsX8_supper_r8 ++ (wsX8_supper_r9 ++ (wsX8_supper_r10 ++ (wsX8_supper_r11 ++ (wsX8_supper_r12 ++ (wsX8_supper_r13 ++ wsX8_supper_r14))))))))))))) ++ wsX80 ++ wsX60 ++ wsX70 ++ wsX00 ++ wsX20 ++ wsX40 ++ wsX10 ++ wsX50 ++ wsX30)
noncomputable def wsX8_night_r1 : List Cond := [ww_464, ww_471, ww_467, ww_514, ww_470, ww_515, ww_516, ww_517, ww_20, ww_518, ww_12, ww_9, ww_143, ww_130, ww_131, ww_132, ww_13, ww_14, ww_8, ww_17, ww_15, ww_18, ww_19, ww_21]
noncomputable def wsX8_night_r2 : List Cond := [ww_113, ww_114, ww_115, ww_116, ww_11, ww_16, ww_22, ww_23, ww_24, ww_10, ww_25, ww_26, ww_27, ww_117, ww_118, ww_119, ww_120, ww_121, ww_122, ww_123, ww_34, ww_124, ww_109, ww_110]
noncomputable def wsX8_night_r3 : List Cond := [ww_111, ww_112, ww_30, ww_95, ww_96, ww_97, ww_98, ww_28, ww_29, ww_99, ww_100, ww_101, ww_102, ww_31, ww_32, ww_33, ww_35, ww_103, ww_104, ww_45, ww_105, ww_36, ww_37, ww_38]
noncomputable def wsX8_night_r4 : List Cond := [ww_39, ww_40, ww_41, ww_42, ww_43, ww_44, ww_46, ww_47, ww_48, ww_49, ww_106, ww_107, ww_57, ww_108, ww_86, ww_87, ww_88, ww_89, ww_90, ww_91, ww_68, ww_69, ww_70, ww_55]
noncomputable def wsX8_night_r5 : List Cond := [ww_56, ww_58, ww_59, ww_60, ww_61, ww_50, ww_51, ww_52, ww_53, ww_54, ww_71, ww_72, ww_73, ww_65, ww_66, ww_67, ww_62, ww_63, ww_64, ww_92, ww_93, ww_94, ww_76, ww_77]
noncomputable def wsX8_night_r6 : List Cond := [ww_78, ww_79, ww_80, ww_81, ww_82, ww_74, ww_83, ww_84, ww_85, ww_75, ww_531, ww_532, ww_533, ww_214, ww_534, ww_233, ww_234, ww_235, ww_236, ww_194, ww_237, ww_238, ww_239, ww_240]
noncomputable def wsX8_night_r7 : List Cond := [ww_241, ww_242, ww_243, ww_244, ww_191, ww_192, ww_193, ww_224, ww_168, ww_169, ww_170, ww_211, ww_126, ww_127, ww_128, ww_216, ww_212, ww_213, ww_215, ww_201, ww_202, ww_203, ww_204, ww_205]
noncomputable def wsX8_night_r8 : List Cond := [ww_206, ww_207, ww_208, ww_209, ww_210, ww_199, ww_200, ww_225, ww_226, ww_227, ww_228, ww_229, ww_230, ww_231, ww_232, ww_220, ww_221, ww_222, ww_223, ww_142, ww_217, ww_218, ww_219, ww_245]
noncomputable def wsX8_night_r9 : List Cond := [ww_172, ww_173, ww_174, ww_141, ww_138, ww_139, ww_140, ww_523, ww_524, ww_525, ww_526]
noncomputable def wsX8_night : List Cond := .code yX8_night cX8_night 3 (some .int) :: ((wsX8_night_r1 ++ (wsX8_night_r2 ++ (wsX8_night_r3 ++ (wsX8_night_r4 ++ (wsX8_night_r5 ++ (wsX8_night_r6 ++ (wsX8_night_r7 ++ (wsX8_night_r8 ++ wsX8_night_r9)))))))) ++ wsX80 ++ wsX60 ++ wsX10 ++ wsX70)
noncomputable def wsX8_isGuest : List Cond := .code yX8_isGuest cX8_isGuest 2 (some .boolean) :: ([ww_467, ww_535] ++ wsX80 ++ wsX70)
noncomputable def wsX8_guest : List Cond := .code yX8_guest cX8_guest 3 (some .int) :: ([ww_467, ww_536, ww_473, ww_537, ww_538, ww_539, ww_540, ww_541, ww_542, ww_543, ww_544, ww_545, ww_546, ww_218, ww_547, ww_535] ++ wsX80 ++ wsX70 ++ wsX40)
noncomputable def wsX8_isGuestOnRoad : List Cond := .code yX8_isGuestOnRoad cX8_isGuestOnRoad 2 (some .boolean) :: ([ww_473, ww_544, ww_545, ww_546, ww_218, ww_547, ww_467, ww_535, ww_548, ww_250, ww_251, ww_252, ww_253, ww_246] ++ wsX80 ++ wsX70 ++ wsX40)
noncomputable def wsX8_wheel_r1 : List Cond := [ww_480, ww_473, ww_541, ww_549, ww_550, ww_551, ww_218, ww_552, ww_544, ww_545, ww_546, ww_547, ww_467, ww_535, ww_548, ww_250, ww_251, ww_252, ww_253, ww_246, ww_553, ww_217, ww_219, ww_554]
noncomputable def wsX8_wheel_r2 : List Cond := [ww_555, ww_556, ww_479, ww_557, ww_362, ww_364, ww_361, ww_365, ww_366, ww_367, ww_368, ww_363, ww_196, ww_197, ww_198, ww_254, ww_247, ww_255, ww_272, ww_273, ww_290, ww_264, ww_289, ww_274]
noncomputable def wsX8_wheel_r3 : List Cond := [ww_286, ww_291, ww_558, ww_321, ww_322, ww_323, ww_248, ww_41, ww_38, ww_42, ww_249]
noncomputable def wsX8_wheel : List Cond := .code yX8_wheel cX8_wheel 3 (some .int) :: ((wsX8_wheel_r1 ++ (wsX8_wheel_r2 ++ wsX8_wheel_r3)) ++ wsX80 ++ wsX40 ++ wsX70 ++ wsX30)
noncomputable def wsX8_run_r1 : List Cond := [ww_480, ww_473, ww_538, ww_549, ww_550, ww_551, ww_218, ww_552, ww_544, ww_545, ww_546, ww_547, ww_467, ww_535, ww_548, ww_250, ww_251, ww_252, ww_253, ww_246, ww_553, ww_217, ww_219, ww_554]
noncomputable def wsX8_run_r2 : List Cond := [ww_555, ww_556, ww_479, ww_557, ww_362, ww_364, ww_361, ww_365, ww_366, ww_367, ww_368, ww_363, ww_196, ww_197, ww_198, ww_254, ww_247, ww_255, ww_272, ww_273, ww_290, ww_264, ww_289, ww_274]
noncomputable def wsX8_run_r3 : List Cond := [ww_286, ww_291, ww_559, ww_325, ww_326, ww_327, ww_248, ww_41, ww_38, ww_42, ww_249]
noncomputable def wsX8_run : List Cond := .code yX8_run cX8_run 3 (some .int) :: ((wsX8_run_r1 ++ (wsX8_run_r2 ++ wsX8_run_r3)) ++ wsX80 ++ wsX40 ++ wsX70 ++ wsX30)
noncomputable def wsX8_hire_r1 : List Cond := [ww_473, ww_480, ww_560, ww_257, ww_258, ww_252, ww_259, ww_255, ww_249, ww_250, ww_251, ww_253, ww_246, ww_554, ww_555, ww_556, ww_479, ww_557, ww_362, ww_364, ww_361, ww_365, ww_366, ww_367]
noncomputable def wsX8_hire_r2 : List Cond := [ww_368, ww_363, ww_196, ww_197, ww_198, ww_254, ww_247, ww_272, ww_273, ww_290, ww_264, ww_289, ww_274, ww_286, ww_291, ww_561, ww_329, ww_330, ww_331, ww_256]
noncomputable def wsX8_hire : List Cond := .code yX8_hire cX8_hire 3 (some .boolean) :: ((wsX8_hire_r1 ++ wsX8_hire_r2) ++ wsX80 ++ wsX40 ++ wsX30)
noncomputable def wsX8_minute_r1 : List Cond := [ww_480, ww_473, ww_467, ww_554, ww_555, ww_556, ww_479, ww_557, ww_362, ww_364, ww_361, ww_365, ww_366, ww_367, ww_252, ww_368, ww_246, ww_363, ww_196, ww_197, ww_198, ww_254, ww_247, ww_255]
noncomputable def wsX8_minute_r2 : List Cond := [ww_272, ww_273, ww_290, ww_264, ww_289, ww_274, ww_286, ww_291, ww_562, ww_333, ww_334, ww_335, ww_312, ww_313, ww_314, ww_209, ww_315, ww_260, ww_261, ww_316, ww_317, ww_318, ww_319, ww_262]
noncomputable def wsX8_minute_r3 : List Cond := [ww_300, ww_301, ww_302, ww_303, ww_269, ww_270, ww_248, ww_41, ww_38, ww_42, ww_271, ww_37, ww_39, ww_275, ww_276, ww_277, ww_278, ww_263, ww_265, ww_266, ww_267, ww_268, ww_249, ww_250]
noncomputable def wsX8_minute_r4 : List Cond := [ww_251, ww_253, ww_304, ww_305, ww_306, ww_307, ww_279, ww_280, ww_281, ww_282, ww_308, ww_309, ww_310, ww_311, ww_285, ww_287, ww_288, ww_292, ww_293, ww_294, ww_147, ww_295, ww_6, ww_176]
noncomputable def wsX8_minute_r5 : List Cond := [ww_7, ww_4, ww_5, ww_184, ww_185, ww_186, ww_187, ww_188, ww_189, ww_177, ww_178, ww_179, ww_180, ww_181, ww_182, ww_183, ww_296, ww_297, ww_298, ww_299, ww_283, ww_284]
noncomputable def wsX8_minute : List Cond := .code yX8_minute cX8_minute 1 (some .int) :: ((wsX8_minute_r1 ++ (wsX8_minute_r2 ++ (wsX8_minute_r3 ++ (wsX8_minute_r4 ++ wsX8_minute_r5)))) ++ wsX80 ++ wsX30 ++ wsX40 ++ wsX70 ++ wsX00)
noncomputable def wsX8_undo_r1 : List Cond := [ww_480, ww_473, ww_563, ww_564, ww_565, ww_479, ww_566, ww_362, ww_361, ww_364, ww_365, ww_366, ww_367, ww_252, ww_368, ww_246, ww_363, ww_196, ww_197, ww_198, ww_254, ww_247, ww_255, ww_272]
noncomputable def wsX8_undo_r2 : List Cond := [ww_273, ww_290, ww_264, ww_289, ww_274, ww_286, ww_291]
noncomputable def wsX8_undo : List Cond := .code yX8_undo cX8_undo 1 (some .boolean) :: ((wsX8_undo_r1 ++ wsX8_undo_r2) ++ wsX80 ++ wsX30 ++ wsX40)
noncomputable def wsX8_judged_r1 : List Cond := [ww_474, ww_467, ww_470, ww_567, ww_568, ww_569, ww_553, ww_217, ww_218, ww_219, ww_501, ww_502, ww_503, ww_252, ww_504, ww_289, ww_286, ww_291, ww_290, ww_296, ww_297, ww_298, ww_299, ww_274]
noncomputable def wsX8_judged_r2 : List Cond := [ww_264, ww_262, ww_246, ww_283, ww_254, ww_284, ww_247, ww_255, ww_272, ww_273, ww_570, ww_571, ww_572, ww_214, ww_573, ww_194, ww_192, ww_191, ww_193, ww_320, ww_321, ww_322, ww_323, ww_248]
noncomputable def wsX8_judged_r3 : List Cond := [ww_41, ww_38, ww_42, ww_249, ww_250, ww_251, ww_253, ww_324, ww_325, ww_326, ww_327, ww_328, ww_329, ww_330, ww_331, ww_256, ww_257, ww_258, ww_259, ww_332, ww_333, ww_334, ww_335, ww_312]
noncomputable def wsX8_judged_r4 : List Cond := [ww_313, ww_314, ww_209, ww_315, ww_260, ww_261, ww_316, ww_317, ww_318, ww_319, ww_300, ww_301, ww_302, ww_303, ww_269, ww_270, ww_271, ww_37, ww_39, ww_275, ww_276, ww_277, ww_278, ww_263]
noncomputable def wsX8_judged_r5 : List Cond := [ww_265, ww_266, ww_267, ww_268, ww_304, ww_305, ww_306, ww_307, ww_279, ww_280, ww_281, ww_282, ww_308, ww_309, ww_310, ww_311, ww_285, ww_287, ww_288, ww_292, ww_293, ww_294, ww_147, ww_295]
noncomputable def wsX8_judged_r6 : List Cond := [ww_6, ww_176, ww_7, ww_4, ww_5, ww_184, ww_185, ww_186, ww_187, ww_188, ww_189, ww_177, ww_178, ww_179, ww_180, ww_181, ww_182, ww_183]
noncomputable def wsX8_judged : List Cond := .code yX8_judged cX8_judged 5 (some .int) :: ((wsX8_judged_r1 ++ (wsX8_judged_r2 ++ (wsX8_judged_r3 ++ (wsX8_judged_r4 ++ (wsX8_judged_r5 ++ wsX8_judged_r6))))) ++ wsX80 ++ wsX10 ++ wsX40 ++ wsX70 ++ wsX00)
noncomputable def wsX8_when_r1 : List Cond := [ww_474, ww_473, ww_467, ww_574, ww_366, ww_367, ww_252, ww_368, ww_246, ww_363, ww_196, ww_197, ww_198, ww_254, ww_247, ww_255, ww_272, ww_273, ww_290, ww_264, ww_289, ww_274, ww_286, ww_291]
noncomputable def wsX8_when_r2 : List Cond := [ww_575, ww_576, ww_577, ww_578, ww_269, ww_312, ww_313, ww_314, ww_209, ww_315, ww_260, ww_261, ww_316, ww_317, ww_318, ww_319, ww_262, ww_300, ww_301, ww_302, ww_303, ww_270, ww_248, ww_41]
noncomputable def wsX8_when_r3 : List Cond := [ww_38, ww_42, ww_271, ww_37, ww_39, ww_275, ww_276, ww_277, ww_278, ww_263, ww_265, ww_266, ww_267, ww_268, ww_249, ww_250, ww_251, ww_253, ww_304, ww_305, ww_306, ww_307, ww_279, ww_280]
noncomputable def wsX8_when_r4 : List Cond := [ww_281, ww_282, ww_308, ww_309, ww_310, ww_311, ww_285, ww_287, ww_288, ww_292, ww_293, ww_294, ww_147, ww_295, ww_6, ww_176, ww_7, ww_4, ww_5, ww_184, ww_185, ww_186, ww_187, ww_188]
noncomputable def wsX8_when_r5 : List Cond := [ww_189, ww_177, ww_178, ww_179, ww_180, ww_181, ww_182, ww_183, ww_296, ww_297, ww_298, ww_299, ww_283, ww_284]
noncomputable def wsX8_when : List Cond := .code yX8_when cX8_when 1 (some .int) :: ((wsX8_when_r1 ++ (wsX8_when_r2 ++ (wsX8_when_r3 ++ (wsX8_when_r4 ++ wsX8_when_r5)))) ++ wsX80 ++ wsX40 ++ wsX70 ++ wsX00)
noncomputable def wsX8_nextCook_r1 : List Cond := [ww_474, ww_467, ww_579, ww_575, ww_576, ww_577, ww_252, ww_578, ww_274, ww_269, ww_312, ww_313, ww_314, ww_209, ww_315, ww_260, ww_261, ww_316, ww_317, ww_318, ww_319, ww_262, ww_264, ww_300]
noncomputable def wsX8_nextCook_r2 : List Cond := [ww_301, ww_302, ww_303, ww_247, ww_246, ww_270, ww_248, ww_41, ww_38, ww_42, ww_254, ww_271, ww_37, ww_39, ww_272, ww_273, ww_275, ww_276, ww_277, ww_278, ww_255, ww_263, ww_265, ww_266]
noncomputable def wsX8_nextCook_r3 : List Cond := [ww_267, ww_268, ww_249, ww_250, ww_251, ww_253, ww_304, ww_305, ww_306, ww_307, ww_279, ww_280, ww_281, ww_282, ww_308, ww_309, ww_310, ww_311, ww_285, ww_286, ww_287, ww_288, ww_289, ww_290]
noncomputable def wsX8_nextCook_r4 : List Cond := [ww_291, ww_292, ww_293, ww_294, ww_147, ww_295, ww_6, ww_176, ww_7, ww_4, ww_5, ww_184, ww_185, ww_186, ww_187, ww_188, ww_189, ww_177, ww_178, ww_179, ww_180, ww_181, ww_182, ww_183]
noncomputable def wsX8_nextCook_r5 : List Cond := [ww_296, ww_297, ww_298, ww_299, ww_283, ww_284]
noncomputable def wsX8_nextCook : List Cond := .code yX8_nextCook cX8_nextCook 1 (some .int) :: ((wsX8_nextCook_r1 ++ (wsX8_nextCook_r2 ++ (wsX8_nextCook_r3 ++ (wsX8_nextCook_r4 ++ wsX8_nextCook_r5)))) ++ wsX80 ++ wsX40 ++ wsX70 ++ wsX00)
noncomputable def wsX8_cook_r1 : List Cond := [ww_474, ww_473, ww_574, ww_366, ww_367, ww_252, ww_368, ww_246, ww_363, ww_196, ww_197, ww_198, ww_254, ww_247, ww_255, ww_272, ww_273, ww_290, ww_264, ww_289, ww_274, ww_286, ww_291, ww_580]
noncomputable def wsX8_cook_r2 : List Cond := [ww_581, ww_582, ww_218, ww_583, ww_467, ww_579, ww_575, ww_576, ww_577, ww_578, ww_269, ww_312, ww_313, ww_314, ww_209, ww_315, ww_260, ww_261, ww_316, ww_317, ww_318, ww_319, ww_262, ww_300]
noncomputable def wsX8_cook_r3 : List Cond := [ww_301, ww_302, ww_303, ww_270, ww_248, ww_41, ww_38, ww_42, ww_271, ww_37, ww_39, ww_275, ww_276, ww_277, ww_278, ww_263, ww_265, ww_266, ww_267, ww_268, ww_249, ww_250, ww_251, ww_253]
noncomputable def wsX8_cook_r4 : List Cond := [ww_304, ww_305, ww_306, ww_307, ww_279, ww_280, ww_281, ww_282, ww_308, ww_309, ww_310, ww_311, ww_285, ww_287, ww_288, ww_292, ww_293, ww_294, ww_147, ww_295, ww_6, ww_176, ww_7, ww_4]
noncomputable def wsX8_cook_r5 : List Cond := [ww_5, ww_184, ww_185, ww_186, ww_187, ww_188, ww_189, ww_177, ww_178, ww_179, ww_180, ww_181, ww_182, ww_183, ww_296, ww_297, ww_298, ww_299, ww_283, ww_284]
noncomputable def wsX8_cook : List Cond := .code yX8_cook cX8_cook 1 (some .int) :: ((wsX8_cook_r1 ++ (wsX8_cook_r2 ++ (wsX8_cook_r3 ++ (wsX8_cook_r4 ++ wsX8_cook_r5)))) ++ wsX80 ++ wsX40 ++ wsX70 ++ wsX00)
noncomputable def wsX8_order_r1 : List Cond := [ww_474, ww_473, ww_584, ww_467, ww_544, ww_545, ww_546, ww_218, ww_547, ww_535, ww_574, ww_366, ww_367, ww_252, ww_368, ww_246, ww_363, ww_196, ww_197, ww_198, ww_254, ww_247, ww_255, ww_272]
noncomputable def wsX8_order_r2 : List Cond := [ww_273, ww_290, ww_264, ww_289, ww_274, ww_286, ww_291, ww_585, ww_586, ww_587, ww_588, ww_312, ww_313, ww_314, ww_209, ww_315, ww_260, ww_261, ww_300, ww_301, ww_302, ww_303, ww_269, ww_262]
noncomputable def wsX8_order_r3 : List Cond := [ww_270, ww_248, ww_41, ww_38, ww_42, ww_271, ww_37, ww_39, ww_275, ww_276, ww_277, ww_278, ww_263, ww_265, ww_266, ww_267, ww_268, ww_249, ww_250, ww_251, ww_253, ww_589, ww_280, ww_281]
noncomputable def wsX8_order_r4 : List Cond := [ww_282]
noncomputable def wsX8_order : List Cond := .code yX8_order cX8_order 3 (some .int) :: ((wsX8_order_r1 ++ (wsX8_order_r2 ++ (wsX8_order_r3 ++ wsX8_order_r4))) ++ wsX80 ++ wsX40 ++ wsX70)
noncomputable def wsX8_lookAhead_r1 : List Cond := [ww_474, ww_473, ww_467, ww_574, ww_366, ww_367, ww_252, ww_368, ww_246, ww_363, ww_196, ww_197, ww_198, ww_254, ww_247, ww_255, ww_272, ww_273, ww_290, ww_264, ww_289, ww_274, ww_286, ww_291]
noncomputable def wsX8_lookAhead_r2 : List Cond := [ww_562, ww_333, ww_334, ww_335, ww_312, ww_313, ww_314, ww_209, ww_315, ww_260, ww_261, ww_316, ww_317, ww_318, ww_319, ww_262, ww_300, ww_301, ww_302, ww_303, ww_269, ww_270, ww_248, ww_41]
noncomputable def wsX8_lookAhead_r3 : List Cond := [ww_38, ww_42, ww_271, ww_37, ww_39, ww_275, ww_276, ww_277, ww_278, ww_263, ww_265, ww_266, ww_267, ww_268, ww_249, ww_250, ww_251, ww_253, ww_304, ww_305, ww_306, ww_307, ww_279, ww_280]
noncomputable def wsX8_lookAhead_r4 : List Cond := [ww_281, ww_282, ww_308, ww_309, ww_310, ww_311, ww_285, ww_287, ww_288, ww_292, ww_293, ww_294, ww_147, ww_295, ww_6, ww_176, ww_7, ww_4, ww_5, ww_184, ww_185, ww_186, ww_187, ww_188]
noncomputable def wsX8_lookAhead_r5 : List Cond := [ww_189, ww_177, ww_178, ww_179, ww_180, ww_181, ww_182, ww_183, ww_296, ww_297, ww_298, ww_299, ww_283, ww_284]
noncomputable def wsX8_lookAhead : List Cond := .code yX8_lookAhead cX8_lookAhead 3 none :: ((wsX8_lookAhead_r1 ++ (wsX8_lookAhead_r2 ++ (wsX8_lookAhead_r3 ++ (wsX8_lookAhead_r4 ++ wsX8_lookAhead_r5)))) ++ wsX80 ++ wsX40 ++ wsX70 ++ wsX00)
noncomputable def wsX8_later_r1 : List Cond := [ww_474, ww_537, ww_544, ww_545, ww_546, ww_218, ww_547, ww_467, ww_535, ww_553, ww_217, ww_219, ww_590, ww_591, ww_592, ww_593, ww_473, ww_574, ww_366, ww_367, ww_252, ww_368, ww_246, ww_363]
noncomputable def wsX8_later_r2 : List Cond := [ww_196, ww_197, ww_198, ww_254, ww_247, ww_255, ww_272, ww_273, ww_290, ww_264, ww_289, ww_274, ww_286, ww_291, ww_562, ww_333, ww_334, ww_335, ww_312, ww_313, ww_314, ww_209, ww_315, ww_260]
noncomputable def wsX8_later_r3 : List Cond := [ww_261, ww_316, ww_317, ww_318, ww_319, ww_262, ww_300, ww_301, ww_302, ww_303, ww_269, ww_270, ww_248, ww_41, ww_38, ww_42, ww_271, ww_37, ww_39, ww_275, ww_276, ww_277, ww_278, ww_263]
noncomputable def wsX8_later_r4 : List Cond := [ww_265, ww_266, ww_267, ww_268, ww_249, ww_250, ww_251, ww_253, ww_304, ww_305, ww_306, ww_307, ww_279, ww_280, ww_281, ww_282, ww_308, ww_309, ww_310, ww_311, ww_285, ww_287, ww_288, ww_292]
noncomputable def wsX8_later_r5 : List Cond := [ww_293, ww_294, ww_147, ww_295, ww_6, ww_176, ww_7, ww_4, ww_5, ww_184, ww_185, ww_186, ww_187, ww_188, ww_189, ww_177, ww_178, ww_179, ww_180, ww_181, ww_182, ww_183, ww_296, ww_297]
noncomputable def wsX8_later_r6 : List Cond := [ww_298, ww_299, ww_283, ww_284]
noncomputable def wsX8_later : List Cond := .code yX8_later cX8_later 3 (some .int) :: ((wsX8_later_r1 ++ (wsX8_later_r2 ++ (wsX8_later_r3 ++ (wsX8_later_r4 ++ (wsX8_later_r5 ++ wsX8_later_r6))))) ++ wsX80 ++ wsX40 ++ wsX70 ++ wsX00)
noncomputable def wsX8_nights_r1 : List Cond := [ww_474, ww_473, ww_467, ww_579, ww_553, ww_217, ww_218, ww_219, ww_574, ww_366, ww_367, ww_252, ww_368, ww_246, ww_363, ww_196, ww_197, ww_198, ww_254, ww_247, ww_255, ww_272, ww_273, ww_290]
noncomputable def wsX8_nights_r2 : List Cond := [ww_264, ww_289, ww_274, ww_286, ww_291, ww_575, ww_576, ww_577, ww_578, ww_269, ww_312, ww_313, ww_314, ww_209, ww_315, ww_260, ww_261, ww_316, ww_317, ww_318, ww_319, ww_262, ww_300, ww_301]
noncomputable def wsX8_nights_r3 : List Cond := [ww_302, ww_303, ww_270, ww_248, ww_41, ww_38, ww_42, ww_271, ww_37, ww_39, ww_275, ww_276, ww_277, ww_278, ww_263, ww_265, ww_266, ww_267, ww_268, ww_249, ww_250, ww_251, ww_253, ww_304]
noncomputable def wsX8_nights_r4 : List Cond := [ww_305, ww_306, ww_307, ww_279, ww_280, ww_281, ww_282, ww_308, ww_309, ww_310, ww_311, ww_285, ww_287, ww_288, ww_292, ww_293, ww_294, ww_147, ww_295, ww_6, ww_176, ww_7, ww_4, ww_5]
noncomputable def wsX8_nights_r5 : List Cond := [ww_184, ww_185, ww_186, ww_187, ww_188, ww_189, ww_177, ww_178, ww_179, ww_180, ww_181, ww_182, ww_183, ww_296, ww_297, ww_298, ww_299, ww_283, ww_284]
noncomputable def wsX8_nights : List Cond := .code yX8_nights cX8_nights 5 (some .int) :: ((wsX8_nights_r1 ++ (wsX8_nights_r2 ++ (wsX8_nights_r3 ++ (wsX8_nights_r4 ++ wsX8_nights_r5)))) ++ wsX80 ++ wsX40 ++ wsX70 ++ wsX00)
noncomputable def wsX8_delay_r1 : List Cond := [ww_474, ww_473, ww_549, ww_550, ww_551, ww_218, ww_552, ww_544, ww_545, ww_546, ww_547, ww_467, ww_535, ww_548, ww_250, ww_251, ww_252, ww_253, ww_246, ww_574, ww_366, ww_367, ww_368, ww_363]
noncomputable def wsX8_delay_r2 : List Cond := [ww_196, ww_197, ww_198, ww_254, ww_247, ww_255, ww_272, ww_273, ww_290, ww_264, ww_289, ww_274, ww_286, ww_291, ww_558, ww_321, ww_322, ww_323, ww_248, ww_41, ww_38, ww_42, ww_249, ww_580]
noncomputable def wsX8_delay_r3 : List Cond := [ww_581, ww_582, ww_583, ww_579, ww_575, ww_576, ww_577, ww_578, ww_269, ww_312, ww_313, ww_314, ww_209, ww_315, ww_260, ww_261, ww_316, ww_317, ww_318, ww_319, ww_262, ww_300, ww_301, ww_302]
noncomputable def wsX8_delay_r4 : List Cond := [ww_303, ww_270, ww_271, ww_37, ww_39, ww_275, ww_276, ww_277, ww_278, ww_263, ww_265, ww_266, ww_267, ww_268, ww_304, ww_305, ww_306, ww_307, ww_279, ww_280, ww_281, ww_282, ww_308, ww_309]
noncomputable def wsX8_delay_r5 : List Cond := [ww_310, ww_311, ww_285, ww_287, ww_288, ww_292, ww_293, ww_294, ww_147, ww_295, ww_6, ww_176, ww_7, ww_4, ww_5, ww_184, ww_185, ww_186, ww_187, ww_188, ww_189, ww_177, ww_178, ww_179]
noncomputable def wsX8_delay_r6 : List Cond := [ww_180, ww_181, ww_182, ww_183, ww_296, ww_297, ww_298, ww_299, ww_283, ww_284]
noncomputable def wsX8_delay : List Cond := .code yX8_delay cX8_delay 3 (some .int) :: ((wsX8_delay_r1 ++ (wsX8_delay_r2 ++ (wsX8_delay_r3 ++ (wsX8_delay_r4 ++ (wsX8_delay_r5 ++ wsX8_delay_r6))))) ++ wsX80 ++ wsX70 ++ wsX40 ++ wsX00)
noncomputable def wsX8_spare_r1 : List Cond := [ww_474, ww_473, ww_549, ww_550, ww_551, ww_218, ww_552, ww_544, ww_545, ww_546, ww_547, ww_467, ww_535, ww_548, ww_250, ww_251, ww_252, ww_253, ww_246, ww_574, ww_366, ww_367, ww_368, ww_363]
noncomputable def wsX8_spare_r2 : List Cond := [ww_196, ww_197, ww_198, ww_254, ww_247, ww_255, ww_272, ww_273, ww_290, ww_264, ww_289, ww_274, ww_286, ww_291, ww_559, ww_325, ww_326, ww_327, ww_248, ww_41, ww_38, ww_42, ww_249, ww_580]
noncomputable def wsX8_spare_r3 : List Cond := [ww_581, ww_582, ww_583, ww_579, ww_575, ww_576, ww_577, ww_578, ww_269, ww_312, ww_313, ww_314, ww_209, ww_315, ww_260, ww_261, ww_316, ww_317, ww_318, ww_319, ww_262, ww_300, ww_301, ww_302]
noncomputable def wsX8_spare_r4 : List Cond := [ww_303, ww_270, ww_271, ww_37, ww_39, ww_275, ww_276, ww_277, ww_278, ww_263, ww_265, ww_266, ww_267, ww_268, ww_304, ww_305, ww_306, ww_307, ww_279, ww_280, ww_281, ww_282, ww_308, ww_309]
noncomputable def wsX8_spare_r5 : List Cond := [ww_310, ww_311, ww_285, ww_287, ww_288, ww_292, ww_293, ww_294, ww_147, ww_295, ww_6, ww_176, ww_7, ww_4, ww_5, ww_184, ww_185, ww_186, ww_187, ww_188, ww_189, ww_177, ww_178, ww_179]
noncomputable def wsX8_spare_r6 : List Cond := [ww_180, ww_181, ww_182, ww_183, ww_296, ww_297, ww_298, ww_299, ww_283, ww_284]
noncomputable def wsX8_spare : List Cond := .code yX8_spare cX8_spare 4 (some .int) :: ((wsX8_spare_r1 ++ (wsX8_spare_r2 ++ (wsX8_spare_r3 ++ (wsX8_spare_r4 ++ (wsX8_spare_r5 ++ wsX8_spare_r6))))) ++ wsX80 ++ wsX70 ++ wsX40 ++ wsX00)
noncomputable def wsX8_nextTaste_r1 : List Cond := [ww_474, ww_569, ww_467, ww_575, ww_576, ww_577, ww_252, ww_578, ww_274, ww_269, ww_312, ww_313, ww_314, ww_209, ww_315, ww_260, ww_261, ww_316, ww_317, ww_318, ww_319, ww_262, ww_264, ww_300]
noncomputable def wsX8_nextTaste_r2 : List Cond := [ww_301, ww_302, ww_303, ww_247, ww_246, ww_270, ww_248, ww_41, ww_38, ww_42, ww_254, ww_271, ww_37, ww_39, ww_272, ww_273, ww_275, ww_276, ww_277, ww_278, ww_255, ww_263, ww_265, ww_266]
noncomputable def wsX8_nextTaste_r3 : List Cond := [ww_267, ww_268, ww_249, ww_250, ww_251, ww_253, ww_304, ww_305, ww_306, ww_307, ww_279, ww_280, ww_281, ww_282, ww_308, ww_309, ww_310, ww_311, ww_285, ww_286, ww_287, ww_288, ww_289, ww_290]
noncomputable def wsX8_nextTaste_r4 : List Cond := [ww_291, ww_292, ww_293, ww_294, ww_147, ww_295, ww_6, ww_176, ww_7, ww_4, ww_5, ww_184, ww_185, ww_186, ww_187, ww_188, ww_189, ww_177, ww_178, ww_179, ww_180, ww_181, ww_182, ww_183]
noncomputable def wsX8_nextTaste_r5 : List Cond := [ww_296, ww_297, ww_298, ww_299, ww_283, ww_284]
noncomputable def wsX8_nextTaste : List Cond := .code yX8_nextTaste cX8_nextTaste 2 (some .int) :: ((wsX8_nextTaste_r1 ++ (wsX8_nextTaste_r2 ++ (wsX8_nextTaste_r3 ++ (wsX8_nextTaste_r4 ++ wsX8_nextTaste_r5)))) ++ wsX80 ++ wsX40 ++ wsX70 ++ wsX00)
noncomputable def wsX8_best_r1 : List Cond := [ww_474, ww_473, ww_467, ww_535, ww_574, ww_366, ww_367, ww_252, ww_368, ww_246, ww_363, ww_196, ww_197, ww_198, ww_254, ww_247, ww_255, ww_272, ww_273, ww_290, ww_264, ww_289, ww_274, ww_286]
noncomputable def wsX8_best_r2 : List Cond := [ww_291, ww_594, ww_595, ww_596, ww_218, ww_597, ww_569, ww_575, ww_576, ww_577, ww_578, ww_269, ww_312, ww_313, ww_314, ww_209, ww_315, ww_260, ww_261, ww_316, ww_317, ww_318, ww_319, ww_262]
noncomputable def wsX8_best_r3 : List Cond := [ww_300, ww_301, ww_302, ww_303, ww_270, ww_248, ww_41, ww_38, ww_42, ww_271, ww_37, ww_39, ww_275, ww_276, ww_277, ww_278, ww_263, ww_265, ww_266, ww_267, ww_268, ww_249, ww_250, ww_251]
noncomputable def wsX8_best_r4 : List Cond := [ww_253, ww_304, ww_305, ww_306, ww_307, ww_279, ww_280, ww_281, ww_282, ww_308, ww_309, ww_310, ww_311, ww_285, ww_287, ww_288, ww_292, ww_293, ww_294, ww_147, ww_295, ww_6, ww_176, ww_7]
noncomputable def wsX8_best_r5 : List Cond := [ww_4, ww_5, ww_184, ww_185, ww_186, ww_187, ww_188, ww_189, ww_177, ww_178, ww_179, ww_180, ww_181, ww_182, ww_183, ww_296, ww_297, ww_298, ww_299, ww_283, ww_284, ww_561, ww_329, ww_330]
noncomputable def wsX8_best_r6 : List Cond := [ww_331, ww_256, ww_257, ww_258, ww_259]
noncomputable def wsX8_best : List Cond := .code yX8_best cX8_best 6 (some .int) :: ((wsX8_best_r1 ++ (wsX8_best_r2 ++ (wsX8_best_r3 ++ (wsX8_best_r4 ++ (wsX8_best_r5 ++ wsX8_best_r6))))) ++ wsX80 ++ wsX70 ++ wsX40 ++ wsX00)
noncomputable def wsX8_excuse_r1 : List Cond := [ww_474, ww_473, ww_467, ww_535, ww_544, ww_545, ww_546, ww_218, ww_547, ww_574, ww_366, ww_367, ww_252, ww_368, ww_246, ww_363, ww_196, ww_197, ww_198, ww_254, ww_247, ww_255, ww_272, ww_273]
noncomputable def wsX8_excuse_r2 : List Cond := [ww_290, ww_264, ww_289, ww_274, ww_286, ww_291, ww_580, ww_581, ww_582, ww_583, ww_579, ww_575, ww_576, ww_577, ww_578, ww_269, ww_312, ww_313, ww_314, ww_209, ww_315, ww_260, ww_261, ww_316]
noncomputable def wsX8_excuse_r3 : List Cond := [ww_317, ww_318, ww_319, ww_262, ww_300, ww_301, ww_302, ww_303, ww_270, ww_248, ww_41, ww_38, ww_42, ww_271, ww_37, ww_39, ww_275, ww_276, ww_277, ww_278, ww_263, ww_265, ww_266, ww_267]
noncomputable def wsX8_excuse_r4 : List Cond := [ww_268, ww_249, ww_250, ww_251, ww_253, ww_304, ww_305, ww_306, ww_307, ww_279, ww_280, ww_281, ww_282, ww_308, ww_309, ww_310, ww_311, ww_285, ww_287, ww_288, ww_292, ww_293, ww_294, ww_147]
noncomputable def wsX8_excuse_r5 : List Cond := [ww_295, ww_6, ww_176, ww_7, ww_4, ww_5, ww_184, ww_185, ww_186, ww_187, ww_188, ww_189, ww_177, ww_178, ww_179, ww_180, ww_181, ww_182, ww_183, ww_296, ww_297, ww_298, ww_299, ww_283]
noncomputable def wsX8_excuse_r6 : List Cond := [ww_284, ww_558, ww_321, ww_322, ww_323]
noncomputable def wsX8_excuse : List Cond := .code yX8_excuse cX8_excuse 4 (some .int) :: ((wsX8_excuse_r1 ++ (wsX8_excuse_r2 ++ (wsX8_excuse_r3 ++ (wsX8_excuse_r4 ++ (wsX8_excuse_r5 ++ wsX8_excuse_r6))))) ++ wsX80 ++ wsX70 ++ wsX40 ++ wsX00)
noncomputable def wsX8_meets_r1 : List Cond := [ww_474, ww_473, ww_537, ww_467, ww_544, ww_545, ww_546, ww_218, ww_547, ww_535, ww_574, ww_366, ww_367, ww_252, ww_368, ww_246, ww_363, ww_196, ww_197, ww_198, ww_254, ww_247, ww_255, ww_272]
noncomputable def wsX8_meets_r2 : List Cond := [ww_273, ww_290, ww_264, ww_289, ww_274, ww_286, ww_291, ww_548, ww_250, ww_251, ww_253, ww_562, ww_333, ww_334, ww_335, ww_312, ww_313, ww_314, ww_209, ww_315, ww_260, ww_261, ww_316, ww_317]
noncomputable def wsX8_meets_r3 : List Cond := [ww_318, ww_319, ww_262, ww_300, ww_301, ww_302, ww_303, ww_269, ww_270, ww_248, ww_41, ww_38, ww_42, ww_271, ww_37, ww_39, ww_275, ww_276, ww_277, ww_278, ww_263, ww_265, ww_266, ww_267]
noncomputable def wsX8_meets_r4 : List Cond := [ww_268, ww_249, ww_304, ww_305, ww_306, ww_307, ww_279, ww_280, ww_281, ww_282, ww_308, ww_309, ww_310, ww_311, ww_285, ww_287, ww_288, ww_292, ww_293, ww_294, ww_147, ww_295, ww_6, ww_176]
noncomputable def wsX8_meets_r5 : List Cond := [ww_7, ww_4, ww_5, ww_184, ww_185, ww_186, ww_187, ww_188, ww_189, ww_177, ww_178, ww_179, ww_180, ww_181, ww_182, ww_183, ww_296, ww_297, ww_298, ww_299, ww_283, ww_284]
noncomputable def wsX8_meets : List Cond := .code yX8_meets cX8_meets 4 (some .int) :: ((wsX8_meets_r1 ++ (wsX8_meets_r2 ++ (wsX8_meets_r3 ++ (wsX8_meets_r4 ++ wsX8_meets_r5)))) ++ wsX80 ++ wsX40 ++ wsX70 ++ wsX00)
noncomputable def wsX8_near : List Cond := .code yX8_near cX8_near 2 (some .int) :: ([ww_473, ww_467, ww_535, ww_553, ww_217, ww_218, ww_219, ww_598, ww_599, ww_600, ww_252, ww_601, ww_246, ww_249, ww_250, ww_251, ww_253] ++ wsX80 ++ wsX70 ++ wsX40)
noncomputable def wsX8_with_r1 : List Cond := [ww_474, ww_473, ww_467, ww_602, ww_544, ww_545, ww_546, ww_218, ww_547, ww_535, ww_574, ww_366, ww_367, ww_252, ww_368, ww_246, ww_363, ww_196, ww_197, ww_198, ww_254, ww_247, ww_255, ww_272]
noncomputable def wsX8_with_r2 : List Cond := [ww_273, ww_290, ww_264, ww_289, ww_274, ww_286, ww_291, ww_548, ww_250, ww_251, ww_253, ww_585, ww_586, ww_587, ww_588, ww_312, ww_313, ww_314, ww_209, ww_315, ww_260, ww_261, ww_300, ww_301]
noncomputable def wsX8_with_r3 : List Cond := [ww_302, ww_303, ww_269, ww_262, ww_270, ww_248, ww_41, ww_38, ww_42, ww_271, ww_37, ww_39, ww_275, ww_276, ww_277, ww_278, ww_263, ww_265, ww_266, ww_267, ww_268, ww_249, ww_603, ww_604]
noncomputable def wsX8_with_r4 : List Cond := [ww_605, ww_606]
noncomputable def wsX8_with : List Cond := .code yX8_with cX8_with 3 (some .int) :: ((wsX8_with_r1 ++ (wsX8_with_r2 ++ (wsX8_with_r3 ++ wsX8_with_r4))) ++ wsX80 ++ wsX40 ++ wsX70)
noncomputable def wsX8_boy_r1 : List Cond := [ww_467, ww_535, ww_474, ww_584, ww_553, ww_217, ww_218, ww_219, ww_590, ww_591, ww_592, ww_593, ww_473, ww_574, ww_366, ww_367, ww_252, ww_368, ww_246, ww_363, ww_196, ww_197, ww_198, ww_254]
noncomputable def wsX8_boy_r2 : List Cond := [ww_247, ww_255, ww_272, ww_273, ww_290, ww_264, ww_289, ww_274, ww_286, ww_291, ww_562, ww_333, ww_334, ww_335, ww_312, ww_313, ww_314, ww_209, ww_315, ww_260, ww_261, ww_316, ww_317, ww_318]
noncomputable def wsX8_boy_r3 : List Cond := [ww_319, ww_262, ww_300, ww_301, ww_302, ww_303, ww_269, ww_270, ww_248, ww_41, ww_38, ww_42, ww_271, ww_37, ww_39, ww_275, ww_276, ww_277, ww_278, ww_263, ww_265, ww_266, ww_267, ww_268]
noncomputable def wsX8_boy_r4 : List Cond := [ww_249, ww_250, ww_251, ww_253, ww_304, ww_305, ww_306, ww_307, ww_279, ww_280, ww_281, ww_282, ww_308, ww_309, ww_310, ww_311, ww_285, ww_287, ww_288, ww_292, ww_293, ww_294, ww_147, ww_295]
noncomputable def wsX8_boy_r5 : List Cond := [ww_6, ww_176, ww_7, ww_4, ww_5, ww_184, ww_185, ww_186, ww_187, ww_188, ww_189, ww_177, ww_178, ww_179, ww_180, ww_181, ww_182, ww_183, ww_296, ww_297, ww_298, ww_299, ww_283, ww_284]
noncomputable def wsX8_boy : List Cond := .code yX8_boy cX8_boy 2 (some .int) :: ((wsX8_boy_r1 ++ (wsX8_boy_r2 ++ (wsX8_boy_r3 ++ (wsX8_boy_r4 ++ wsX8_boy_r5)))) ++ wsX80 ++ wsX70 ++ wsX40 ++ wsX00)
noncomputable def wsX8_held_r1 : List Cond := [ww_473, ww_467, ww_535, ww_607, ww_608, ww_276, ww_277, ww_252, ww_278, ww_262, ww_255, ww_263, ww_264, ww_265, ww_266, ww_267, ww_268, ww_249, ww_250, ww_251, ww_253, ww_246, ww_598, ww_599]
noncomputable def wsX8_held_r2 : List Cond := [ww_600, ww_601]
noncomputable def wsX8_held : List Cond := .code yX8_held cX8_held 1 (some .int) :: ((wsX8_held_r1 ++ wsX8_held_r2) ++ wsX80 ++ wsX70 ++ wsX40)
noncomputable def wsX8_fair : List Cond := .code yX8_fair cX8_fair 4 (some .int) :: ([ww_467, ww_535, ww_473, ww_543, ww_609, ww_37, ww_38, ww_39, ww_610, ww_41, ww_42] ++ wsX80 ++ wsX70 ++ wsX40)
noncomputable def wsX8_see : List Cond := .code yX8_see cX8_see 4 (some .boolean) :: ([ww_476, ww_553, ww_217, ww_218, ww_219, ww_611, ww_612, ww_613, ww_351, ww_614, ww_369, ww_338, ww_339, ww_341] ++ wsX80 ++ wsX50)
noncomputable def wsX8_suspects_r1 : List Cond := [ww_473, ww_467, ww_535, ww_476, ww_474, ww_598, ww_599, ww_600, ww_252, ww_601, ww_246, ww_249, ww_250, ww_251, ww_253, ww_615, ww_616, ww_617, ww_351, ww_618, ww_369, ww_338, ww_371, ww_37]
noncomputable def wsX8_suspects_r2 : List Cond := [ww_38, ww_39, ww_574, ww_366, ww_367, ww_368, ww_363, ww_196, ww_197, ww_198, ww_254, ww_247, ww_255, ww_272, ww_273, ww_290, ww_264, ww_289, ww_274, ww_286, ww_291, ww_619, ww_620, ww_621]
noncomputable def wsX8_suspects_r3 : List Cond := [ww_622, ww_372, ww_339, ww_341, ww_562, ww_333, ww_334, ww_335, ww_312, ww_313, ww_314, ww_209, ww_315, ww_260, ww_261, ww_316, ww_317, ww_318, ww_319, ww_262, ww_300, ww_301, ww_302, ww_303]
noncomputable def wsX8_suspects_r4 : List Cond := [ww_269, ww_270, ww_248, ww_41, ww_42, ww_271, ww_275, ww_276, ww_277, ww_278, ww_263, ww_265, ww_266, ww_267, ww_268, ww_304, ww_305, ww_306, ww_307, ww_279, ww_280, ww_281, ww_282, ww_308]
noncomputable def wsX8_suspects_r5 : List Cond := [ww_309, ww_310, ww_311, ww_285, ww_287, ww_288, ww_292, ww_293, ww_294, ww_147, ww_295, ww_6, ww_176, ww_7, ww_4, ww_5, ww_184, ww_185, ww_186, ww_187, ww_188, ww_189, ww_177, ww_178]
noncomputable def wsX8_suspects_r6 : List Cond := [ww_179, ww_180, ww_181, ww_182, ww_183, ww_296, ww_297, ww_298, ww_299, ww_283, ww_284]
noncomputable def wsX8_suspects : List Cond := .code yX8_suspects cX8_suspects 4 (some .int) :: ((wsX8_suspects_r1 ++ (wsX8_suspects_r2 ++ (wsX8_suspects_r3 ++ (wsX8_suspects_r4 ++ (wsX8_suspects_r5 ++ wsX8_suspects_r6))))) ++ wsX80 ++ wsX70 ++ wsX40 ++ wsX50 ++ wsX00)
noncomputable def wsX8_who_r1 : List Cond := [ww_623, ww_624, ww_625, ww_218, ww_626, ww_473, ww_467, ww_535, ww_476, ww_474, ww_598, ww_599, ww_600, ww_252, ww_601, ww_246, ww_249, ww_250, ww_251, ww_253, ww_615, ww_616, ww_617, ww_351]
noncomputable def wsX8_who_r2 : List Cond := [ww_618, ww_369, ww_338, ww_371, ww_37, ww_38, ww_39, ww_574, ww_366, ww_367, ww_368, ww_363, ww_196, ww_197, ww_198, ww_254, ww_247, ww_255, ww_272, ww_273, ww_290, ww_264, ww_289, ww_274]
noncomputable def wsX8_who_r3 : List Cond := [ww_286, ww_291, ww_619, ww_620, ww_621, ww_622, ww_372, ww_339, ww_341, ww_562, ww_333, ww_334, ww_335, ww_312, ww_313, ww_314, ww_209, ww_315, ww_260, ww_261, ww_316, ww_317, ww_318, ww_319]
noncomputable def wsX8_who_r4 : List Cond := [ww_262, ww_300, ww_301, ww_302, ww_303, ww_269, ww_270, ww_248, ww_41, ww_42, ww_271, ww_275, ww_276, ww_277, ww_278, ww_263, ww_265, ww_266, ww_267, ww_268, ww_304, ww_305, ww_306, ww_307]
noncomputable def wsX8_who_r5 : List Cond := [ww_279, ww_280, ww_281, ww_282, ww_308, ww_309, ww_310, ww_311, ww_285, ww_287, ww_288, ww_292, ww_293, ww_294, ww_147, ww_295, ww_6, ww_176, ww_7, ww_4, ww_5, ww_184, ww_185, ww_186]
noncomputable def wsX8_who_r6 : List Cond := [ww_187, ww_188, ww_189, ww_177, ww_178, ww_179, ww_180, ww_181, ww_182, ww_183, ww_296, ww_297, ww_298, ww_299, ww_283, ww_284]
noncomputable def wsX8_who : List Cond := .code yX8_who cX8_who 1 (some .int) :: ((wsX8_who_r1 ++ (wsX8_who_r2 ++ (wsX8_who_r3 ++ (wsX8_who_r4 ++ (wsX8_who_r5 ++ wsX8_who_r6))))) ++ wsX80 ++ wsX70 ++ wsX40 ++ wsX50 ++ wsX00)
noncomputable def wsJ6_bitCount_0f7a4 : List Cond := .code yJ6_bitCount_0f7a4 cJ6_bitCount_0f7a4 1 (some .int) :: ([ww_627, ww_628, ww_629])
noncomputable def wsX8_ask_r1 : List Cond := [ww_474, ww_473, ww_467, ww_535, ww_537, ww_609, ww_37, ww_38, ww_39, ww_623, ww_624, ww_625, ww_218, ww_626, ww_476, ww_598, ww_599, ww_600, ww_252, ww_601, ww_246, ww_249, ww_250, ww_251]
noncomputable def wsX8_ask_r2 : List Cond := [ww_253, ww_615, ww_616, ww_617, ww_351, ww_618, ww_369, ww_338, ww_371, ww_574, ww_366, ww_367, ww_368, ww_363, ww_196, ww_197, ww_198, ww_254, ww_247, ww_255, ww_272, ww_273, ww_290, ww_264]
noncomputable def wsX8_ask_r3 : List Cond := [ww_289, ww_274, ww_286, ww_291, ww_619, ww_620, ww_621, ww_622, ww_372, ww_339, ww_341, ww_562, ww_333, ww_334, ww_335, ww_312, ww_313, ww_314, ww_209, ww_315, ww_260, ww_261, ww_316, ww_317]
noncomputable def wsX8_ask_r4 : List Cond := [ww_318, ww_319, ww_262, ww_300, ww_301, ww_302, ww_303, ww_269, ww_270, ww_248, ww_41, ww_42, ww_271, ww_275, ww_276, ww_277, ww_278, ww_263, ww_265, ww_266, ww_267, ww_268, ww_304, ww_305]
noncomputable def wsX8_ask_r5 : List Cond := [ww_306, ww_307, ww_279, ww_280, ww_281, ww_282, ww_308, ww_309, ww_310, ww_311, ww_285, ww_287, ww_288, ww_292, ww_293, ww_294, ww_147, ww_295, ww_6, ww_176, ww_7, ww_4, ww_5, ww_184]
noncomputable def wsX8_ask_r6 : List Cond := [ww_185, ww_186, ww_187, ww_188, ww_189, ww_177, ww_178, ww_179, ww_180, ww_181, ww_182, ww_183, ww_296, ww_297, ww_298, ww_299, ww_283, ww_284, ww_630, ww_631, ww_632, ww_633, ww_627, ww_628]
noncomputable def wsX8_ask_r7 : List Cond := [ww_629, ww_634, ww_635, ww_636, ww_637]
noncomputable def wsX8_ask : List Cond := .code yX8_ask cX8_ask 10 (some .int) :: ((wsX8_ask_r1 ++ (wsX8_ask_r2 ++ (wsX8_ask_r3 ++ (wsX8_ask_r4 ++ (wsX8_ask_r5 ++ (wsX8_ask_r6 ++ wsX8_ask_r7)))))) ++ wsX80 ++ wsX70 ++ wsX40 ++ wsX50 ++ wsX00)
noncomputable def wsX8_isInBySnows_r1 : List Cond := [ww_474, ww_473, ww_467, ww_574, ww_366, ww_367, ww_252, ww_368, ww_246, ww_363, ww_196, ww_197, ww_198, ww_254, ww_247, ww_255, ww_272, ww_273, ww_290, ww_264, ww_289, ww_274, ww_286, ww_291]
noncomputable def wsX8_isInBySnows_r2 : List Cond := [ww_638, ww_317, ww_318, ww_319, ww_262, ww_300, ww_301, ww_302, ww_303, ww_269, ww_270, ww_248, ww_41, ww_38, ww_42, ww_271, ww_37, ww_39, ww_275, ww_276, ww_277, ww_278, ww_263, ww_265]
noncomputable def wsX8_isInBySnows_r3 : List Cond := [ww_266, ww_267, ww_268, ww_249, ww_250, ww_251, ww_253, ww_304, ww_305, ww_306, ww_307, ww_279, ww_280, ww_281, ww_282, ww_308, ww_309, ww_310, ww_311, ww_285, ww_287, ww_288, ww_292, ww_293]
noncomputable def wsX8_isInBySnows_r4 : List Cond := [ww_294, ww_147, ww_295, ww_6, ww_176, ww_7, ww_4, ww_5, ww_184, ww_185, ww_186, ww_187, ww_188, ww_189, ww_177, ww_178, ww_179, ww_180, ww_181, ww_182, ww_183, ww_296, ww_297, ww_298]
noncomputable def wsX8_isInBySnows_r5 : List Cond := [ww_299, ww_283, ww_284, ww_548]
noncomputable def wsX8_isInBySnows : List Cond := .code yX8_isInBySnows cX8_isInBySnows 7 (some .boolean) :: ((wsX8_isInBySnows_r1 ++ (wsX8_isInBySnows_r2 ++ (wsX8_isInBySnows_r3 ++ (wsX8_isInBySnows_r4 ++ wsX8_isInBySnows_r5)))) ++ wsX80 ++ wsX40 ++ wsX70 ++ wsX00)
noncomputable def wsX8_power : List Cond := .code yX8_power cX8_power 4 (some .int) :: ([])
noncomputable def wsX8_chance_r1 : List Cond := [ww_549, ww_550, ww_551, ww_218, ww_552, ww_473, ww_544, ww_545, ww_546, ww_547, ww_467, ww_535, ww_548, ww_250, ww_251, ww_252, ww_253, ww_246, ww_553, ww_217, ww_219, ww_639, ww_640, ww_641]
noncomputable def wsX8_chance_r2 : List Cond := [ww_642, ww_474, ww_574, ww_366, ww_367, ww_368, ww_363, ww_196, ww_197, ww_198, ww_254, ww_247, ww_255, ww_272, ww_273, ww_290, ww_264, ww_289, ww_274, ww_286, ww_291, ww_638, ww_317, ww_318]
noncomputable def wsX8_chance_r3 : List Cond := [ww_319, ww_262, ww_300, ww_301, ww_302, ww_303, ww_269, ww_270, ww_248, ww_41, ww_38, ww_42, ww_271, ww_37, ww_39, ww_275, ww_276, ww_277, ww_278, ww_263, ww_265, ww_266, ww_267, ww_268]
noncomputable def wsX8_chance_r4 : List Cond := [ww_249, ww_304, ww_305, ww_306, ww_307, ww_279, ww_280, ww_281, ww_282, ww_308, ww_309, ww_310, ww_311, ww_285, ww_287, ww_288, ww_292, ww_293, ww_294, ww_147, ww_295, ww_6, ww_176, ww_7]
noncomputable def wsX8_chance_r5 : List Cond := [ww_4, ww_5, ww_184, ww_185, ww_186, ww_187, ww_188, ww_189, ww_177, ww_178, ww_179, ww_180, ww_181, ww_182, ww_183, ww_296, ww_297, ww_298, ww_299, ww_283, ww_284, ww_630, ww_631, ww_632]
noncomputable def wsX8_chance_r6 : List Cond := [ww_633, ww_627, ww_628, ww_629, ww_643, ww_644, ww_645]
noncomputable def wsX8_chance : List Cond := .code yX8_chance cX8_chance 7 (some .int) :: ((wsX8_chance_r1 ++ (wsX8_chance_r2 ++ (wsX8_chance_r3 ++ (wsX8_chance_r4 ++ (wsX8_chance_r5 ++ wsX8_chance_r6))))) ++ wsX80 ++ wsX70 ++ wsX40 ++ wsX00)
noncomputable def wsX8_gain : List Cond := .code yX8_gain cX8_gain 5 (some .int) :: ([])
noncomputable def wsX8_isContent : List Cond := .code yX8_isContent cX8_isContent 5 (some .boolean) :: ([ww_646, ww_647, ww_218, ww_648])
noncomputable def wsX8_rests : List Cond := .code yX8_rests cX8_rests 9 (some .int) :: ([ww_649, ww_650, ww_553, ww_217, ww_218, ww_219, ww_651, ww_652, ww_653, ww_646, ww_647, ww_648] ++ (vx_atS RX8 265 "java/util/NoSuchElementException" ["java/lang/RuntimeException", "java/lang/Exception"]).filter goodWord)
noncomputable def wsX8_draw : List Cond := .code yX8_draw cX8_draw 2 (some .int) :: ([ww_654, ww_655, ww_656, ww_657, ww_658] ++ wsX80)
noncomputable def wsX8_drawDeed_r1 : List Cond := [ww_467, ww_535, ww_474, ww_659, ww_660, ww_661, ww_218, ww_662, ww_654, ww_655, ww_656, ww_657, ww_658, ww_558, ww_321, ww_322, ww_252, ww_323, ww_247, ww_248, ww_41, ww_38, ww_42, ww_249]
noncomputable def wsX8_drawDeed_r2 : List Cond := [ww_250, ww_251, ww_253, ww_246, ww_559, ww_325, ww_326, ww_327, ww_254, ww_561, ww_329, ww_330, ww_331, ww_255, ww_256, ww_257, ww_258, ww_259]
noncomputable def wsX8_drawDeed : List Cond := .code yX8_drawDeed cX8_drawDeed 3 none :: ((wsX8_drawDeed_r1 ++ wsX8_drawDeed_r2) ++ wsX80 ++ wsX70 ++ wsX40)
noncomputable def wsX8_years_r1 : List Cond := [ww_663, ww_474, ww_473, ww_654, ww_467, ww_568, ww_569, ww_535, ww_553, ww_217, ww_218, ww_219, ww_574, ww_366, ww_367, ww_252, ww_368, ww_246, ww_363, ww_196, ww_197, ww_198, ww_254, ww_247]
noncomputable def wsX8_years_r2 : List Cond := [ww_255, ww_272, ww_273, ww_290, ww_264, ww_289, ww_274, ww_286, ww_291, ww_664, ww_665, ww_666, ww_667, ww_659, ww_660, ww_661, ww_662, ww_655, ww_656, ww_657, ww_658, ww_558, ww_321, ww_322]
noncomputable def wsX8_years_r3 : List Cond := [ww_323, ww_248, ww_41, ww_38, ww_42, ww_249, ww_250, ww_251, ww_253, ww_559, ww_325, ww_326, ww_327, ww_561, ww_329, ww_330, ww_331, ww_256, ww_257, ww_258, ww_259, ww_562, ww_333, ww_334]
noncomputable def wsX8_years_r4 : List Cond := [ww_335, ww_312, ww_313, ww_314, ww_209, ww_315, ww_260, ww_261, ww_316, ww_317, ww_318, ww_319, ww_262, ww_300, ww_301, ww_302, ww_303, ww_269, ww_270, ww_271, ww_37, ww_39, ww_275, ww_276]
noncomputable def wsX8_years_r5 : List Cond := [ww_277, ww_278, ww_263, ww_265, ww_266, ww_267, ww_268, ww_304, ww_305, ww_306, ww_307, ww_279, ww_280, ww_281, ww_282, ww_308, ww_309, ww_310, ww_311, ww_285, ww_287, ww_288, ww_292, ww_293]
noncomputable def wsX8_years_r6 : List Cond := [ww_294, ww_147, ww_295, ww_6, ww_176, ww_7, ww_4, ww_5, ww_184, ww_185, ww_186, ww_187, ww_188, ww_189, ww_177, ww_178, ww_179, ww_180, ww_181, ww_182, ww_183, ww_296, ww_297, ww_298]
noncomputable def wsX8_years_r7 : List Cond := [ww_299, ww_283, ww_284, ww_598, ww_599, ww_600, ww_601]
noncomputable def wsX8_years : List Cond := .code yX8_years cX8_years 5 (some .int) :: ((wsX8_years_r1 ++ (wsX8_years_r2 ++ (wsX8_years_r3 ++ (wsX8_years_r4 ++ (wsX8_years_r5 ++ (wsX8_years_r6 ++ wsX8_years_r7)))))) ++ wsX80 ++ wsX40 ++ wsX70 ++ wsX00)
noncomputable def wsX8_mark_r1 : List Cond := [ww_482, ww_668, ww_473, ww_669, ww_470, ww_670, ww_476, ww_500, ww_480, ww_553, ww_217, ww_218, ww_219, ww_574, ww_366, ww_367, ww_252, ww_368, ww_246, ww_363, ww_196, ww_197, ww_198, ww_254]
noncomputable def wsX8_mark_r2 : List Cond := [ww_247, ww_255, ww_272, ww_273, ww_290, ww_264, ww_289, ww_274, ww_286, ww_291, ww_671, ww_672, ww_673, ww_214, ww_674, ww_191, ww_195, ww_192, ww_193, ww_194, ww_675, ww_676, ww_677, ww_351]
noncomputable def wsX8_mark_r3 : List Cond := [ww_678, ww_338, ww_370, ww_339, ww_341, ww_369, ww_510, ww_511, ww_512, ww_479, ww_513, ww_362]
noncomputable def wsX8_mark : List Cond := .code yX8_mark cX8_mark 4 (some .boolean) :: ((wsX8_mark_r1 ++ (wsX8_mark_r2 ++ wsX8_mark_r3)) ++ wsX80 ++ wsX20 ++ wsX40 ++ wsX10 ++ wsX50 ++ wsX30)
noncomputable def wsX8_count_r1 : List Cond := [ww_467, ww_535, ww_607, ww_679, ww_473, ww_568, ww_680, ww_569, ww_470, ww_567, ww_476, ww_681, ww_480, ww_682, ww_464, ww_495, ww_683, ww_313, ww_314, ww_209, ww_315, ww_260, ww_261, ww_598]
noncomputable def wsX8_count_r2 : List Cond := [ww_599, ww_600, ww_252, ww_601, ww_246, ww_249, ww_250, ww_251, ww_253]
noncomputable def wsX8_count : List Cond := .code yX8_count cX8_count 2 (some .int) :: ((wsX8_count_r1 ++ wsX8_count_r2) ++ wsX80 ++ wsX70 ++ wsX40 ++ wsX10 ++ wsX50 ++ wsX30 ++ wsX60)
noncomputable def wsX9_usual : List Cond := .code yX9_usual cX9_usual 2 none :: ([ww_684] ++ wsX90)
noncomputable def wsX9_sets : List Cond := .code yX9_sets cX9_sets 2 none :: ([ww_684, ww_685, ww_686] ++ wsX90)
noncomputable def wsX9_fresh0 : List Cond := .code yX9_fresh0 cX9_fresh0 2 none :: ([ww_685, ww_687, ww_688, ww_689, ww_690, ww_691, ww_684, ww_686] ++ wsX90)
noncomputable def wsX9_init_r1 : List Cond := [ww_692, ww_1, ww_2, ww_3, ww_693, ww_684, ww_391, ww_694, ww_695, ww_686, ww_696, ww_697, ww_698, ww_699, ww_700, ww_701, ww_702, ww_340, ww_703, ww_704, ww_705, ww_706, ww_707, ww_708]
noncomputable def wsX9_init_r2 : List Cond := [ww_709, ww_710, ww_711, ww_712, ww_713, ww_714, ww_715, ww_716, ww_717, ww_718, ww_719, ww_720, ww_721, ww_685, ww_722, ww_723, ww_724, ww_725, ww_726, ww_727, ww_728, ww_729, ww_730, ww_731]
noncomputable def wsX9_init_r3 : List Cond := [ww_732, ww_733, ww_690, ww_734, ww_735, ww_736, ww_737, ww_738, ww_687, ww_688, ww_689, ww_691]
noncomputable def wsX9_init : List Cond := .code yX9_init cX9_init 1 none :: ((wsX9_init_r1 ++ (wsX9_init_r2 ++ wsX9_init_r3)) ++ wsX90)
noncomputable def wsX9_within : List Cond := .code yX9_within cX9_within 3 (some .boolean) :: ([])
noncomputable def wsX9_between : List Cond := .code yX9_between cX9_between 3 (some .int) :: ([])
noncomputable def wsX9_bits : List Cond := .code yX9_bits cX9_bits 3 (some .int) :: ([])
noncomputable def wsX9_feed : List Cond := .code yX9_feed cX9_feed 11 (some .int) :: ([ww_739, ww_740, ww_741, ww_693] ++ wsX90)
noncomputable def wsX9_signAt : List Cond := .code yX9_signAt cX9_signAt 2 (some .int) :: ([ww_742, ww_693] ++ wsX90)
noncomputable def wsX9_nextToken : List Cond := .code yX9_nextToken cX9_nextToken 2 none :: ([ww_743, ww_742, ww_693, ww_744, ww_745, ww_746, ww_747, ww_748, ww_749, ww_750, ww_751, ww_752, ww_690, ww_753] ++ wsX90)
noncomputable def wsX9_isWord : List Cond := .code yX9_isWord cX9_isWord 3 (some .boolean) :: ([ww_747, ww_745] ++ wsX90)
noncomputable def wsX9_isSign : List Cond := .code yX9_isSign cX9_isSign 2 (some .boolean) :: ([ww_747, ww_693, ww_744] ++ wsX90)
noncomputable def wsX9_fails : List Cond := .code yX9_fails cX9_fails 2 (some .boolean) :: ([ww_744, ww_754] ++ wsX90)
noncomputable def wsX9_puts : List Cond := .code yX9_puts cX9_puts 2 none :: ([ww_701, ww_755] ++ wsX90)
noncomputable def wsX9_fact : List Cond := .code yX9_fact cX9_fact 1 (some .int) :: ([ww_747, ww_745, ww_756, ww_757, ww_758, ww_759] ++ wsX90)
noncomputable def wsX9_reads_r1 : List Cond := [ww_703, ww_760, ww_747, ww_702, ww_746, ww_761, ww_762, ww_763, ww_764, ww_765, ww_690, ww_766, ww_745, ww_756, ww_757, ww_758, ww_759, ww_767, ww_768, ww_769, ww_770, ww_771, ww_772, ww_773]
noncomputable def wsX9_reads_r2 : List Cond := [ww_774, ww_693, ww_744, ww_775, ww_776, ww_777, ww_778, ww_754, ww_779, ww_780, ww_781, ww_782, ww_701, ww_755, ww_783, ww_784, ww_785, ww_786, ww_743, ww_742, ww_748, ww_749, ww_750, ww_751]
noncomputable def wsX9_reads_r3 : List Cond := [ww_752, ww_753]
noncomputable def wsX9_reads : List Cond := .code yX9_reads cX9_reads 6 (some .boolean) :: ((wsX9_reads_r1 ++ (wsX9_reads_r2 ++ wsX9_reads_r3)) ++ wsX90)
noncomputable def wsX9_opens : List Cond := .code yX9_opens cX9_opens 2 none :: ([ww_705, ww_707, ww_708, ww_709, ww_711] ++ wsX90)
noncomputable def wsX9_sums : List Cond := .code yX9_sums cX9_sums 2 none :: ([ww_708, ww_709, ww_710, ww_711] ++ wsX90)
noncomputable def wsX9_tests : List Cond := .code yX9_tests cX9_tests 3 none :: ([ww_708, ww_707, ww_706, ww_705, ww_704, ww_709, ww_787, ww_788, ww_789, ww_690, ww_790, ww_710, ww_711] ++ wsX90)
noncomputable def wsX9_worked_r1 : List Cond := [ww_699, ww_700, ww_701, ww_712, ww_709, ww_711, ww_706, ww_708, ww_707, ww_705, ww_713, ww_704, ww_710, ww_791, ww_792, ww_793, ww_690, ww_794, ww_787, ww_788, ww_789, ww_790, ww_795, ww_796]
noncomputable def wsX9_worked_r2 : List Cond := [ww_797, ww_798]
noncomputable def wsX9_worked : List Cond := .code yX9_worked cX9_worked 6 (some .int) :: ((wsX9_worked_r1 ++ wsX9_worked_r2) ++ wsX90)
noncomputable def wsX9_isKept : List Cond := .code yX9_isKept cX9_isKept 1 (some .boolean) :: ([ww_747, ww_745, ww_799, ww_800, ww_801, ww_802, ww_803, ww_804, ww_805, ww_806, ww_807, ww_808, ww_809, ww_810, ww_811, ww_812, ww_813, ww_814, ww_760, ww_761, ww_762] ++ wsX90)
noncomputable def wsX9_guestNamed : List Cond := .code yX9_guestNamed cX9_guestNamed 3 (some .int) :: ([ww_684, ww_694, ww_745] ++ wsX90)
noncomputable def wsX9_needsNumber_r1 : List Cond := [ww_747, ww_746, ww_815, ww_775, ww_776, ww_777, ww_690, ww_778, ww_744, ww_754, ww_816, ww_817, ww_818, ww_783, ww_784, ww_785, ww_786, ww_743, ww_742, ww_693, ww_745, ww_748, ww_749, ww_750]
noncomputable def wsX9_needsNumber_r2 : List Cond := [ww_751, ww_752, ww_753]
noncomputable def wsX9_needsNumber : List Cond := .code yX9_needsNumber cX9_needsNumber 3 (some .boolean) :: ((wsX9_needsNumber_r1 ++ wsX9_needsNumber_r2) ++ wsX90)
noncomputable def wsX9_needsBoth_r1 : List Cond := [ww_767, ww_768, ww_769, ww_690, ww_770, ww_747, ww_745, ww_775, ww_776, ww_777, ww_778, ww_744, ww_754, ww_783, ww_784, ww_785, ww_786, ww_743, ww_742, ww_693, ww_746, ww_748, ww_749, ww_750]
noncomputable def wsX9_needsBoth_r2 : List Cond := [ww_751, ww_752, ww_753, ww_819, ww_820, ww_821, ww_822, ww_815, ww_816, ww_817, ww_818]
noncomputable def wsX9_needsBoth : List Cond := .code yX9_needsBoth cX9_needsBoth 5 (some .boolean) :: ((wsX9_needsBoth_r1 ++ wsX9_needsBoth_r2) ++ wsX90)
noncomputable def wsX9_closes_r1 : List Cond := [ww_771, ww_772, ww_773, ww_690, ww_774, ww_747, ww_693, ww_744, ww_775, ww_776, ww_777, ww_778, ww_754, ww_783, ww_784, ww_785, ww_786, ww_743, ww_742, ww_745, ww_746, ww_748, ww_749, ww_750]
noncomputable def wsX9_closes_r2 : List Cond := [ww_751, ww_752, ww_753]
noncomputable def wsX9_closes : List Cond := .code yX9_closes cX9_closes 1 (some .boolean) :: ((wsX9_closes_r1 ++ wsX9_closes_r2) ++ wsX90)
noncomputable def wsX9_needsGuest_r1 : List Cond := [ww_815, ww_823, ww_824, ww_825, ww_690, ww_826, ww_747, ww_745, ww_799, ww_800, ww_801, ww_802, ww_803, ww_804, ww_805, ww_806, ww_807, ww_808, ww_809, ww_810, ww_811, ww_812, ww_813, ww_814]
noncomputable def wsX9_needsGuest_r2 : List Cond := [ww_760, ww_761, ww_762, ww_775, ww_776, ww_777, ww_778, ww_744, ww_754, ww_827, ww_828, ww_829, ww_830, ww_684, ww_694]
noncomputable def wsX9_needsGuest : List Cond := .code yX9_needsGuest cX9_needsGuest 1 (some .boolean) :: ((wsX9_needsGuest_r1 ++ wsX9_needsGuest_r2) ++ wsX90)
noncomputable def wsX9_readsGuest_r1 : List Cond := [ww_684, ww_745, ww_695, ww_811, ww_812, ww_813, ww_814, ww_800, ww_686, ww_815, ww_801, ww_696, ww_802, ww_697, ww_694, ww_775, ww_776, ww_777, ww_690, ww_778, ww_744, ww_754, ww_783, ww_784]
noncomputable def wsX9_readsGuest_r2 : List Cond := [ww_785, ww_786, ww_743, ww_742, ww_693, ww_746, ww_747, ww_748, ww_749, ww_750, ww_751, ww_752, ww_753, ww_823, ww_824, ww_825, ww_826, ww_799, ww_803, ww_804, ww_805, ww_806, ww_807, ww_808]
noncomputable def wsX9_readsGuest_r3 : List Cond := [ww_809, ww_810, ww_760, ww_761, ww_762, ww_827, ww_828, ww_829, ww_830, ww_767, ww_768, ww_769, ww_770, ww_831, ww_832, ww_833, ww_834, ww_819, ww_820, ww_821, ww_822, ww_816, ww_817, ww_818]
noncomputable def wsX9_readsGuest_r4 : List Cond := [ww_835, ww_836, ww_837, ww_838, ww_771, ww_772, ww_773, ww_774]
noncomputable def wsX9_readsGuest : List Cond := .code yX9_readsGuest cX9_readsGuest 4 (some .boolean) :: ((wsX9_readsGuest_r1 ++ (wsX9_readsGuest_r2 ++ (wsX9_readsGuest_r3 ++ wsX9_readsGuest_r4))) ++ wsX90)
noncomputable def wsX9_readsOne_r1 : List Cond := [ww_839, ww_684, ww_815, ww_775, ww_776, ww_777, ww_690, ww_778, ww_744, ww_754, ww_783, ww_784, ww_785, ww_786, ww_743, ww_742, ww_693, ww_745, ww_746, ww_747, ww_748, ww_749, ww_750, ww_751]
noncomputable def wsX9_readsOne_r2 : List Cond := [ww_752, ww_753, ww_819, ww_820, ww_821, ww_822, ww_816, ww_817, ww_818, ww_835, ww_836, ww_837, ww_838, ww_771, ww_772, ww_773, ww_774]
noncomputable def wsX9_readsOne : List Cond := .code yX9_readsOne cX9_readsOne 3 (some .boolean) :: ((wsX9_readsOne_r1 ++ wsX9_readsOne_r2) ++ wsX90)
noncomputable def wsX9_readsSnow_r1 : List Cond := [ww_684, ww_747, ww_746, ww_698, ww_775, ww_776, ww_777, ww_690, ww_778, ww_744, ww_754, ww_783, ww_784, ww_785, ww_786, ww_743, ww_742, ww_693, ww_745, ww_748, ww_749, ww_750, ww_751, ww_752]
noncomputable def wsX9_readsSnow_r2 : List Cond := [ww_753, ww_835, ww_836, ww_837, ww_838, ww_771, ww_772, ww_773, ww_774]
noncomputable def wsX9_readsSnow : List Cond := .code yX9_readsSnow cX9_readsSnow 1 (some .boolean) :: ((wsX9_readsSnow_r1 ++ wsX9_readsSnow_r2) ++ wsX90)
noncomputable def wsX9_readsTastes_r1 : List Cond := [ww_700, ww_699, ww_755, ww_775, ww_776, ww_777, ww_690, ww_778, ww_744, ww_754, ww_783, ww_784, ww_785, ww_786, ww_743, ww_742, ww_693, ww_745, ww_746, ww_747, ww_748, ww_749, ww_750, ww_751]
noncomputable def wsX9_readsTastes_r2 : List Cond := [ww_752, ww_753, ww_840, ww_841, ww_842, ww_843, ww_703, ww_760, ww_702, ww_761, ww_762, ww_763, ww_764, ww_765, ww_766, ww_756, ww_757, ww_758, ww_759, ww_767, ww_768, ww_769, ww_770, ww_771]
noncomputable def wsX9_readsTastes_r3 : List Cond := [ww_772, ww_773, ww_774, ww_779, ww_780, ww_781, ww_782, ww_701]
noncomputable def wsX9_readsTastes : List Cond := .code yX9_readsTastes cX9_readsTastes 1 (some .boolean) :: ((wsX9_readsTastes_r1 ++ (wsX9_readsTastes_r2 ++ wsX9_readsTastes_r3)) ++ wsX90)
noncomputable def wsX9_begins : List Cond := .code yX9_begins cX9_begins 1 none :: ([ww_741, ww_742, ww_743, ww_783, ww_784, ww_785, ww_690, ww_786, ww_693, ww_744, ww_745, ww_746, ww_747, ww_748, ww_749, ww_750, ww_751, ww_752, ww_753] ++ wsX90)
noncomputable def wsX9_readsAll_r1 : List Cond := [ww_699, ww_700, ww_839, ww_755, ww_747, ww_799, ww_803, ww_804, ww_805, ww_806, ww_731, ww_732, ww_733, ww_690, ww_734, ww_684, ww_844, ww_845, ww_846, ww_847, ww_741, ww_742, ww_743, ww_783]
noncomputable def wsX9_readsAll_r2 : List Cond := [ww_784, ww_785, ww_786, ww_693, ww_744, ww_745, ww_746, ww_748, ww_749, ww_750, ww_751, ww_752, ww_753, ww_767, ww_768, ww_769, ww_770, ww_848, ww_849, ww_850, ww_851, ww_695, ww_811, ww_812]
noncomputable def wsX9_readsAll_r3 : List Cond := [ww_813, ww_814, ww_800, ww_686, ww_815, ww_801, ww_696, ww_802, ww_697, ww_694, ww_775, ww_776, ww_777, ww_778, ww_754, ww_823, ww_824, ww_825, ww_826, ww_807, ww_808, ww_809, ww_810, ww_760]
noncomputable def wsX9_readsAll_r4 : List Cond := [ww_761, ww_762, ww_827, ww_828, ww_829, ww_830, ww_831, ww_832, ww_833, ww_834, ww_819, ww_820, ww_821, ww_822, ww_816, ww_817, ww_818, ww_835, ww_836, ww_837, ww_838, ww_771, ww_772, ww_773]
noncomputable def wsX9_readsAll_r5 : List Cond := [ww_774, ww_852, ww_853, ww_854, ww_855, ww_856, ww_857, ww_858, ww_859, ww_698, ww_860, ww_861, ww_862, ww_863, ww_840, ww_841, ww_842, ww_843, ww_703, ww_702, ww_763, ww_764, ww_765, ww_766]
noncomputable def wsX9_readsAll_r6 : List Cond := [ww_756, ww_757, ww_758, ww_759, ww_779, ww_780, ww_781, ww_782, ww_701]
noncomputable def wsX9_readsAll : List Cond := .code yX9_readsAll cX9_readsAll 2 (some .boolean) :: ((wsX9_readsAll_r1 ++ (wsX9_readsAll_r2 ++ (wsX9_readsAll_r3 ++ (wsX9_readsAll_r4 ++ (wsX9_readsAll_r5 ++ wsX9_readsAll_r6))))) ++ wsX90)
noncomputable def wsX9_shifts : List Cond := .code yX9_shifts cX9_shifts 3 none :: ([])
noncomputable def wsX9_lays : List Cond := .code yX9_lays cX9_lays 2 none :: ([ww_684, ww_694, ww_695, ww_686, ww_696, ww_697, ww_698, ww_701, ww_699, ww_700, ww_864, ww_865, ww_690, ww_866] ++ wsX90)
noncomputable def wsX9_copies : List Cond := .code yX9_copies cX9_copies 5 none :: ([])
noncomputable def wsX9_readsLine_r1 : List Cond := [ww_807, ww_808, ww_809, ww_810, ww_714, ww_715, ww_716, ww_815, ww_717, ww_767, ww_768, ww_769, ww_690, ww_770, ww_747, ww_745, ww_775, ww_776, ww_777, ww_778, ww_744, ww_754, ww_783, ww_784]
noncomputable def wsX9_readsLine_r2 : List Cond := [ww_785, ww_786, ww_743, ww_742, ww_693, ww_746, ww_748, ww_749, ww_750, ww_751, ww_752, ww_753, ww_867, ww_868, ww_869, ww_870, ww_823, ww_824, ww_825, ww_826, ww_799, ww_800, ww_801, ww_802]
noncomputable def wsX9_readsLine_r3 : List Cond := [ww_803, ww_804, ww_805, ww_806, ww_811, ww_812, ww_813, ww_814, ww_760, ww_761, ww_762, ww_827, ww_828, ww_829, ww_830, ww_684, ww_694, ww_819, ww_820, ww_821, ww_822, ww_816, ww_817, ww_818]
noncomputable def wsX9_readsLine_r4 : List Cond := [ww_835, ww_836, ww_837, ww_838, ww_771, ww_772, ww_773, ww_774]
noncomputable def wsX9_readsLine : List Cond := .code yX9_readsLine cX9_readsLine 3 (some .boolean) :: ((wsX9_readsLine_r1 ++ (wsX9_readsLine_r2 ++ (wsX9_readsLine_r3 ++ wsX9_readsLine_r4))) ++ wsX90)
noncomputable def wsX9_laysLines : List Cond := .code yX9_laysLines cX9_laysLines 4 none :: ([ww_714, ww_715, ww_716, ww_717] ++ wsX90)
noncomputable def wsX9_laysSeen : List Cond := .code yX9_laysSeen cX9_laysSeen 4 none :: ([ww_718, ww_719, ww_720, ww_721] ++ wsX90)
noncomputable def wsX9_supper_r1 : List Cond := [ww_739, ww_754, ww_714, ww_718, ww_871, ww_726, ww_872, ww_873, ww_874, ww_690, ww_875, ww_699, ww_700, ww_839, ww_755, ww_747, ww_799, ww_803, ww_804, ww_805, ww_806, ww_731, ww_732, ww_733]
noncomputable def wsX9_supper_r2 : List Cond := [ww_734, ww_684, ww_844, ww_845, ww_846, ww_847, ww_741, ww_742, ww_743, ww_783, ww_784, ww_785, ww_786, ww_693, ww_744, ww_745, ww_746, ww_748, ww_749, ww_750, ww_751, ww_752, ww_753, ww_767]
noncomputable def wsX9_supper_r3 : List Cond := [ww_768, ww_769, ww_770, ww_848, ww_849, ww_850, ww_851, ww_695, ww_811, ww_812, ww_813, ww_814, ww_800, ww_686, ww_815, ww_801, ww_696, ww_802, ww_697, ww_694, ww_775, ww_776, ww_777, ww_778]
noncomputable def wsX9_supper_r4 : List Cond := [ww_823, ww_824, ww_825, ww_826, ww_807, ww_808, ww_809, ww_810, ww_760, ww_761, ww_762, ww_827, ww_828, ww_829, ww_830, ww_831, ww_832, ww_833, ww_834, ww_819, ww_820, ww_821, ww_822, ww_816]
noncomputable def wsX9_supper_r5 : List Cond := [ww_817, ww_818, ww_835, ww_836, ww_837, ww_838, ww_771, ww_772, ww_773, ww_774, ww_852, ww_853, ww_854, ww_855, ww_856, ww_857, ww_858, ww_859, ww_698, ww_860, ww_861, ww_862, ww_863, ww_840]
noncomputable def wsX9_supper_r6 : List Cond := [ww_841, ww_842, ww_843, ww_703, ww_702, ww_763, ww_764, ww_765, ww_766, ww_756, ww_757, ww_758, ww_759, ww_779, ww_780, ww_781, ww_782, ww_701, ww_876, ww_877, ww_878, ww_879, ww_864, ww_865]
noncomputable def wsX9_supper_r7 : List Cond := [ww_866, ww_735, ww_736, ww_737, ww_738, ww_685, ww_687, ww_688, ww_689, ww_691]
noncomputable def wsX9_supper : List Cond := .code yX9_supper cX9_supper 2 (some .int) :: ((wsX9_supper_r1 ++ (wsX9_supper_r2 ++ (wsX9_supper_r3 ++ (wsX9_supper_r4 ++ (wsX9_supper_r5 ++ (wsX9_supper_r6 ++ wsX9_supper_r7)))))) ++ wsX90)
noncomputable def wsX9_night_r1 : List Cond := [ww_739, ww_714, ww_747, ww_754, ww_844, ww_845, ww_846, ww_690, ww_847, ww_741, ww_742, ww_743, ww_783, ww_784, ww_785, ww_786, ww_693, ww_744, ww_745, ww_746, ww_748, ww_749, ww_750, ww_751]
noncomputable def wsX9_night_r2 : List Cond := [ww_752, ww_753, ww_880, ww_881, ww_882, ww_883, ww_807, ww_808, ww_809, ww_810, ww_715, ww_716, ww_815, ww_717, ww_767, ww_768, ww_769, ww_770, ww_775, ww_776, ww_777, ww_778, ww_867, ww_868]
noncomputable def wsX9_night_r3 : List Cond := [ww_869, ww_870, ww_823, ww_824, ww_825, ww_826, ww_799, ww_800, ww_801, ww_802, ww_803, ww_804, ww_805, ww_806, ww_811, ww_812, ww_813, ww_814, ww_760, ww_761, ww_762, ww_827, ww_828, ww_829]
noncomputable def wsX9_night_r4 : List Cond := [ww_830, ww_684, ww_694, ww_819, ww_820, ww_821, ww_822, ww_816, ww_817, ww_818, ww_835, ww_836, ww_837, ww_838, ww_771, ww_772, ww_773, ww_774, ww_884, ww_885, ww_886, ww_887]
noncomputable def wsX9_night : List Cond := .code yX9_night cX9_night 1 (some .int) :: ((wsX9_night_r1 ++ (wsX9_night_r2 ++ (wsX9_night_r3 ++ wsX9_night_r4))) ++ wsX90)
noncomputable def wsX9_isGuest : List Cond := .code yX9_isGuest cX9_isGuest 2 (some .boolean) :: ([ww_684] ++ wsX90)
noncomputable def wsX9_isIn : List Cond := .code yX9_isIn cX9_isIn 2 (some .boolean) :: ([ww_685] ++ wsX90)
noncomputable def wsX9_onRoad : List Cond := .code yX9_onRoad cX9_onRoad 3 (some .int) :: ([ww_684, ww_888, ww_889, ww_890, ww_690, ww_891, ww_685] ++ wsX90)
noncomputable def wsX9_paceOf : List Cond := .code yX9_paceOf cX9_paceOf 2 (some .int) :: ([ww_696, ww_685, ww_892, ww_41, ww_38, ww_42] ++ wsX90)
noncomputable def wsX9_greats : List Cond := .code yX9_greats cX9_greats 3 (some .int) :: ([ww_684, ww_695] ++ wsX90)
noncomputable def wsX9_holds : List Cond := .code yX9_holds cX9_holds 4 (some .boolean) :: ([ww_684, ww_695, ww_685, ww_893, ww_894, ww_895, ww_690, ww_896] ++ wsX90)
noncomputable def wsX9_snowOf : List Cond := .code yX9_snowOf cX9_snowOf 2 (some .int) :: ([ww_684, ww_698] ++ wsX90)
noncomputable def wsX9_goes_r1 : List Cond := [ww_685, ww_727, ww_897, ww_37, ww_38, ww_39, ww_684, ww_892, ww_41, ww_42, ww_898, ww_899, ww_900, ww_690, ww_901, ww_696, ww_902, ww_903, ww_904, ww_905, ww_698, ww_906, ww_907, ww_908]
noncomputable def wsX9_goes_r2 : List Cond := [ww_909, ww_695, ww_893, ww_894, ww_895, ww_896]
noncomputable def wsX9_goes : List Cond := .code yX9_goes cX9_goes 5 none :: ((wsX9_goes_r1 ++ wsX9_goes_r2) ++ wsX90)
noncomputable def wsX9_cookNow : List Cond := .code yX9_cookNow cX9_cookNow 4 (some .int) :: ([ww_684, ww_695, ww_685] ++ wsX90)
noncomputable def wsX9_isEatenBy_r1 : List Cond := [ww_697, ww_700, ww_699, ww_713, ww_685, ww_684, ww_897, ww_37, ww_38, ww_39, ww_910, ww_911, ww_912, ww_690, ww_913, ww_701, ww_712, ww_709, ww_711, ww_706, ww_708, ww_707, ww_705, ww_704]
noncomputable def wsX9_isEatenBy_r2 : List Cond := [ww_710, ww_791, ww_792, ww_793, ww_794, ww_787, ww_788, ww_789, ww_790, ww_795, ww_796, ww_797, ww_798, ww_914, ww_915, ww_916, ww_687, ww_688, ww_689, ww_691, ww_686]
noncomputable def wsX9_isEatenBy : List Cond := .code yX9_isEatenBy cX9_isEatenBy 3 none :: ((wsX9_isEatenBy_r1 ++ wsX9_isEatenBy_r2) ++ wsX90)
noncomputable def wsX9_passes_r1 : List Cond := [ww_684, ww_917, ww_685, ww_918, ww_919, ww_920, ww_690, ww_921, ww_888, ww_889, ww_890, ww_891, ww_922, ww_923, ww_924, ww_925, ww_926, ww_927, ww_928, ww_727, ww_897, ww_37, ww_38, ww_39]
noncomputable def wsX9_passes_r2 : List Cond := [ww_892, ww_41, ww_42, ww_898, ww_899, ww_900, ww_901, ww_696, ww_902, ww_903, ww_904, ww_905, ww_698, ww_906, ww_907, ww_908, ww_909, ww_695, ww_893, ww_894, ww_895, ww_896, ww_929, ww_930]
noncomputable def wsX9_passes_r3 : List Cond := [ww_931, ww_932, ww_933, ww_934, ww_935, ww_936, ww_697, ww_700, ww_699, ww_713, ww_910, ww_911, ww_912, ww_913, ww_701, ww_712, ww_709, ww_711, ww_706, ww_708, ww_707, ww_705, ww_704, ww_710]
noncomputable def wsX9_passes_r4 : List Cond := [ww_791, ww_792, ww_793, ww_794, ww_787, ww_788, ww_789, ww_790, ww_795, ww_796, ww_797, ww_798, ww_914, ww_915, ww_916, ww_687, ww_688, ww_689, ww_691, ww_686]
noncomputable def wsX9_passes : List Cond := .code yX9_passes cX9_passes 4 (some .int) :: ((wsX9_passes_r1 ++ (wsX9_passes_r2 ++ (wsX9_passes_r3 ++ wsX9_passes_r4))) ++ wsX90)
noncomputable def wsX9_guest : List Cond := .code yX9_guest cX9_guest 3 (some .int) :: ([ww_739, ww_695, ww_685, ww_697, ww_937, ww_938, ww_939, ww_690, ww_940, ww_684, ww_816, ww_817, ww_818, ww_898, ww_899, ww_900, ww_901, ww_696, ww_892, ww_41, ww_38, ww_42] ++ wsX90)
noncomputable def wsX9_keeps : List Cond := .code yX9_keeps cX9_keeps 2 none :: ([ww_871, ww_725, ww_685, ww_941, ww_942, ww_690, ww_943] ++ wsX90)
noncomputable def wsX9_wheels : List Cond := .code yX9_wheels cX9_wheels 3 none :: ([ww_685, ww_892, ww_41, ww_38, ww_42] ++ wsX90)
noncomputable def wsX9_runs : List Cond := .code yX9_runs cX9_runs 3 none :: ([ww_685, ww_696, ww_892, ww_41, ww_38, ww_42] ++ wsX90)
noncomputable def wsX9_isOnRoad : List Cond := .code yX9_isOnRoad cX9_isOnRoad 2 (some .boolean) :: ([ww_937, ww_938, ww_939, ww_690, ww_940, ww_684, ww_888, ww_889, ww_890, ww_891, ww_685] ++ wsX90)
noncomputable def wsX9_canHire : List Cond := .code yX9_canHire cX9_canHire 3 (some .boolean) :: ([ww_685, ww_944, ww_945, ww_946, ww_690, ww_947, ww_937, ww_938, ww_939, ww_940, ww_684, ww_888, ww_889, ww_890, ww_891] ++ wsX90)
noncomputable def wsX9_wheel_r1 : List Cond := [ww_739, ww_685, ww_944, ww_945, ww_946, ww_690, ww_947, ww_937, ww_938, ww_939, ww_940, ww_684, ww_888, ww_889, ww_890, ww_891, ww_816, ww_817, ww_818, ww_948, ww_949, ww_950, ww_951, ww_871]
noncomputable def wsX9_wheel_r2 : List Cond := [ww_725, ww_941, ww_942, ww_943, ww_952, ww_953, ww_954, ww_955, ww_892, ww_41, ww_38, ww_42]
noncomputable def wsX9_wheel : List Cond := .code yX9_wheel cX9_wheel 3 (some .int) :: ((wsX9_wheel_r1 ++ wsX9_wheel_r2) ++ wsX90)
noncomputable def wsX9_run_r1 : List Cond := [ww_739, ww_944, ww_945, ww_946, ww_690, ww_947, ww_937, ww_938, ww_939, ww_940, ww_684, ww_888, ww_889, ww_890, ww_891, ww_685, ww_816, ww_817, ww_818, ww_948, ww_949, ww_950, ww_951, ww_871]
noncomputable def wsX9_run_r2 : List Cond := [ww_725, ww_941, ww_942, ww_943, ww_956, ww_957, ww_958, ww_959, ww_696, ww_892, ww_41, ww_38, ww_42, ww_898, ww_899, ww_900, ww_901]
noncomputable def wsX9_run : List Cond := .code yX9_run cX9_run 3 (some .int) :: ((wsX9_run_r1 ++ wsX9_run_r2) ++ wsX90)
noncomputable def wsX9_hire_r1 : List Cond := [ww_739, ww_685, ww_960, ww_961, ww_962, ww_690, ww_963, ww_944, ww_945, ww_946, ww_947, ww_937, ww_938, ww_939, ww_940, ww_684, ww_888, ww_889, ww_890, ww_891, ww_948, ww_949, ww_950, ww_951]
noncomputable def wsX9_hire_r2 : List Cond := [ww_871, ww_725, ww_941, ww_942, ww_943]
noncomputable def wsX9_hire : List Cond := .code yX9_hire cX9_hire 3 (some .boolean) :: ((wsX9_hire_r1 ++ wsX9_hire_r2) ++ wsX90)
noncomputable def wsX9_minute_r1 : List Cond := [ww_739, ww_948, ww_949, ww_950, ww_690, ww_951, ww_871, ww_725, ww_685, ww_941, ww_942, ww_943, ww_964, ww_965, ww_966, ww_967, ww_684, ww_917, ww_918, ww_919, ww_920, ww_921, ww_888, ww_889]
noncomputable def wsX9_minute_r2 : List Cond := [ww_890, ww_891, ww_922, ww_923, ww_924, ww_925, ww_926, ww_927, ww_928, ww_727, ww_897, ww_37, ww_38, ww_39, ww_892, ww_41, ww_42, ww_898, ww_899, ww_900, ww_901, ww_696, ww_902, ww_903]
noncomputable def wsX9_minute_r3 : List Cond := [ww_904, ww_905, ww_698, ww_906, ww_907, ww_908, ww_909, ww_695, ww_893, ww_894, ww_895, ww_896, ww_929, ww_930, ww_931, ww_932, ww_933, ww_934, ww_935, ww_936, ww_697, ww_700, ww_699, ww_713]
noncomputable def wsX9_minute_r4 : List Cond := [ww_910, ww_911, ww_912, ww_913, ww_701, ww_712, ww_709, ww_711, ww_706, ww_708, ww_707, ww_705, ww_704, ww_710, ww_791, ww_792, ww_793, ww_794, ww_787, ww_788, ww_789, ww_790, ww_795, ww_796]
noncomputable def wsX9_minute_r5 : List Cond := [ww_797, ww_798, ww_914, ww_915, ww_916, ww_687, ww_688, ww_689, ww_691, ww_686]
noncomputable def wsX9_minute : List Cond := .code yX9_minute cX9_minute 1 (some .int) :: ((wsX9_minute_r1 ++ (wsX9_minute_r2 ++ (wsX9_minute_r3 ++ (wsX9_minute_r4 ++ wsX9_minute_r5)))) ++ wsX90)
noncomputable def wsX9_undo : List Cond := .code yX9_undo cX9_undo 1 (some .boolean) :: ([ww_739, ww_871, ww_725, ww_685, ww_941, ww_942, ww_690, ww_943] ++ wsX90)
noncomputable def wsX9_isDone_r1 : List Cond := [ww_716, ww_715, ww_717, ww_685, ww_964, ww_965, ww_966, ww_690, ww_967, ww_684, ww_917, ww_918, ww_919, ww_920, ww_921, ww_888, ww_889, ww_890, ww_891, ww_922, ww_923, ww_924, ww_925, ww_926]
noncomputable def wsX9_isDone_r2 : List Cond := [ww_927, ww_928, ww_727, ww_897, ww_37, ww_38, ww_39, ww_892, ww_41, ww_42, ww_898, ww_899, ww_900, ww_901, ww_696, ww_902, ww_903, ww_904, ww_905, ww_698, ww_906, ww_907, ww_908, ww_909]
noncomputable def wsX9_isDone_r3 : List Cond := [ww_695, ww_893, ww_894, ww_895, ww_896, ww_929, ww_930, ww_931, ww_932, ww_933, ww_934, ww_935, ww_936, ww_697, ww_700, ww_699, ww_713, ww_910, ww_911, ww_912, ww_913, ww_701, ww_712, ww_709]
noncomputable def wsX9_isDone_r4 : List Cond := [ww_711, ww_706, ww_708, ww_707, ww_705, ww_704, ww_710, ww_791, ww_792, ww_793, ww_794, ww_787, ww_788, ww_789, ww_790, ww_795, ww_796, ww_797, ww_798, ww_914, ww_915, ww_916, ww_687, ww_688]
noncomputable def wsX9_isDone_r5 : List Cond := [ww_689, ww_691, ww_686, ww_960, ww_961, ww_962, ww_963, ww_944, ww_945, ww_946, ww_947, ww_937, ww_938, ww_939, ww_940, ww_952, ww_953, ww_954, ww_955, ww_956, ww_957, ww_958, ww_959]
noncomputable def wsX9_isDone : List Cond := .code yX9_isDone cX9_isDone 4 (some .boolean) :: ((wsX9_isDone_r1 ++ (wsX9_isDone_r2 ++ (wsX9_isDone_r3 ++ (wsX9_isDone_r4 ++ wsX9_isDone_r5)))) ++ wsX90)
noncomputable def wsX9_judged_r1 : List Cond := [ww_739, ww_685, ww_722, ww_714, ww_816, ww_817, ww_690, ww_818, ww_941, ww_942, ww_943, ww_735, ww_736, ww_737, ww_738, ww_687, ww_688, ww_689, ww_691, ww_684, ww_686, ww_968, ww_969, ww_970]
noncomputable def wsX9_judged_r2 : List Cond := [ww_971, ww_716, ww_715, ww_717, ww_964, ww_965, ww_966, ww_967, ww_917, ww_918, ww_919, ww_920, ww_921, ww_888, ww_889, ww_890, ww_891, ww_922, ww_923, ww_924, ww_925, ww_926, ww_927, ww_928]
noncomputable def wsX9_judged_r3 : List Cond := [ww_727, ww_897, ww_37, ww_38, ww_39, ww_892, ww_41, ww_42, ww_898, ww_899, ww_900, ww_901, ww_696, ww_902, ww_903, ww_904, ww_905, ww_698, ww_906, ww_907, ww_908, ww_909, ww_695, ww_893]
noncomputable def wsX9_judged_r4 : List Cond := [ww_894, ww_895, ww_896, ww_929, ww_930, ww_931, ww_932, ww_933, ww_934, ww_935, ww_936, ww_697, ww_700, ww_699, ww_713, ww_910, ww_911, ww_912, ww_913, ww_701, ww_712, ww_709, ww_711, ww_706]
noncomputable def wsX9_judged_r5 : List Cond := [ww_708, ww_707, ww_705, ww_704, ww_710, ww_791, ww_792, ww_793, ww_794, ww_787, ww_788, ww_789, ww_790, ww_795, ww_796, ww_797, ww_798, ww_914, ww_915, ww_916, ww_960, ww_961, ww_962, ww_963]
noncomputable def wsX9_judged_r6 : List Cond := [ww_944, ww_945, ww_946, ww_947, ww_937, ww_938, ww_939, ww_940, ww_952, ww_953, ww_954, ww_955, ww_956, ww_957, ww_958, ww_959]
noncomputable def wsX9_judged : List Cond := .code yX9_judged cX9_judged 5 (some .int) :: ((wsX9_judged_r1 ++ (wsX9_judged_r2 ++ (wsX9_judged_r3 ++ (wsX9_judged_r4 ++ (wsX9_judged_r5 ++ wsX9_judged_r6))))) ++ wsX90)
noncomputable def wsX9_eats_r1 : List Cond := [ww_685, ww_972, ww_973, ww_723, ww_964, ww_965, ww_966, ww_690, ww_967, ww_684, ww_917, ww_918, ww_919, ww_920, ww_921, ww_888, ww_889, ww_890, ww_891, ww_922, ww_923, ww_924, ww_925, ww_926]
noncomputable def wsX9_eats_r2 : List Cond := [ww_927, ww_928, ww_727, ww_897, ww_37, ww_38, ww_39, ww_892, ww_41, ww_42, ww_898, ww_899, ww_900, ww_901, ww_696, ww_902, ww_903, ww_904, ww_905, ww_698, ww_906, ww_907, ww_908, ww_909]
noncomputable def wsX9_eats_r3 : List Cond := [ww_695, ww_893, ww_894, ww_895, ww_896, ww_929, ww_930, ww_931, ww_932, ww_933, ww_934, ww_935, ww_936, ww_697, ww_700, ww_699, ww_713, ww_910, ww_911, ww_912, ww_913, ww_701, ww_712, ww_709]
noncomputable def wsX9_eats_r4 : List Cond := [ww_711, ww_706, ww_708, ww_707, ww_705, ww_704, ww_710, ww_791, ww_792, ww_793, ww_794, ww_787, ww_788, ww_789, ww_790, ww_795, ww_796, ww_797, ww_798, ww_914, ww_915, ww_916, ww_687, ww_688]
noncomputable def wsX9_eats_r5 : List Cond := [ww_689, ww_691, ww_686, ww_941, ww_942, ww_943]
noncomputable def wsX9_eats : List Cond := .code yX9_eats cX9_eats 3 (some .int) :: ((wsX9_eats_r1 ++ (wsX9_eats_r2 ++ (wsX9_eats_r3 ++ (wsX9_eats_r4 ++ wsX9_eats_r5)))) ++ wsX90)
noncomputable def wsX9_when_r1 : List Cond := [ww_739, ww_685, ww_723, ww_941, ww_942, ww_690, ww_943, ww_974, ww_975, ww_976, ww_977, ww_972, ww_973, ww_964, ww_965, ww_966, ww_967, ww_684, ww_917, ww_918, ww_919, ww_920, ww_921, ww_888]
noncomputable def wsX9_when_r2 : List Cond := [ww_889, ww_890, ww_891, ww_922, ww_923, ww_924, ww_925, ww_926, ww_927, ww_928, ww_727, ww_897, ww_37, ww_38, ww_39, ww_892, ww_41, ww_42, ww_898, ww_899, ww_900, ww_901, ww_696, ww_902]
noncomputable def wsX9_when_r3 : List Cond := [ww_903, ww_904, ww_905, ww_698, ww_906, ww_907, ww_908, ww_909, ww_695, ww_893, ww_894, ww_895, ww_896, ww_929, ww_930, ww_931, ww_932, ww_933, ww_934, ww_935, ww_936, ww_697, ww_700, ww_699]
noncomputable def wsX9_when_r4 : List Cond := [ww_713, ww_910, ww_911, ww_912, ww_913, ww_701, ww_712, ww_709, ww_711, ww_706, ww_708, ww_707, ww_705, ww_704, ww_710, ww_791, ww_792, ww_793, ww_794, ww_787, ww_788, ww_789, ww_790, ww_795]
noncomputable def wsX9_when_r5 : List Cond := [ww_796, ww_797, ww_798, ww_914, ww_915, ww_916, ww_687, ww_688, ww_689, ww_691, ww_686]
noncomputable def wsX9_when : List Cond := .code yX9_when cX9_when 1 (some .int) :: ((wsX9_when_r1 ++ (wsX9_when_r2 ++ (wsX9_when_r3 ++ (wsX9_when_r4 ++ wsX9_when_r5)))) ++ wsX90)
noncomputable def wsX9_cook_r1 : List Cond := [ww_739, ww_685, ww_723, ww_972, ww_941, ww_942, ww_690, ww_943, ww_974, ww_975, ww_976, ww_977, ww_973, ww_964, ww_965, ww_966, ww_967, ww_684, ww_917, ww_918, ww_919, ww_920, ww_921, ww_888]
noncomputable def wsX9_cook_r2 : List Cond := [ww_889, ww_890, ww_891, ww_922, ww_923, ww_924, ww_925, ww_926, ww_927, ww_928, ww_727, ww_897, ww_37, ww_38, ww_39, ww_892, ww_41, ww_42, ww_898, ww_899, ww_900, ww_901, ww_696, ww_902]
noncomputable def wsX9_cook_r3 : List Cond := [ww_903, ww_904, ww_905, ww_698, ww_906, ww_907, ww_908, ww_909, ww_695, ww_893, ww_894, ww_895, ww_896, ww_929, ww_930, ww_931, ww_932, ww_933, ww_934, ww_935, ww_936, ww_697, ww_700, ww_699]
noncomputable def wsX9_cook_r4 : List Cond := [ww_713, ww_910, ww_911, ww_912, ww_913, ww_701, ww_712, ww_709, ww_711, ww_706, ww_708, ww_707, ww_705, ww_704, ww_710, ww_791, ww_792, ww_793, ww_794, ww_787, ww_788, ww_789, ww_790, ww_795]
noncomputable def wsX9_cook_r5 : List Cond := [ww_796, ww_797, ww_798, ww_914, ww_915, ww_916, ww_687, ww_688, ww_689, ww_691, ww_686]
noncomputable def wsX9_cook : List Cond := .code yX9_cook cX9_cook 1 (some .int) :: ((wsX9_cook_r1 ++ (wsX9_cook_r2 ++ (wsX9_cook_r3 ++ (wsX9_cook_r4 ++ wsX9_cook_r5)))) ++ wsX90)
noncomputable def wsX9_laysPlaces_r1 : List Cond := [ww_685, ww_723, ww_684, ww_728, ww_729, ww_917, ww_941, ww_942, ww_690, ww_943, ww_918, ww_919, ww_920, ww_921, ww_888, ww_889, ww_890, ww_891, ww_922, ww_923, ww_924, ww_964, ww_965, ww_966]
noncomputable def wsX9_laysPlaces_r2 : List Cond := [ww_967, ww_925, ww_926, ww_927, ww_928, ww_727, ww_897, ww_37, ww_38, ww_39, ww_892, ww_41, ww_42, ww_898, ww_899, ww_900, ww_901, ww_696, ww_902, ww_903, ww_904, ww_905, ww_698, ww_906]
noncomputable def wsX9_laysPlaces_r3 : List Cond := [ww_907, ww_908, ww_909, ww_695, ww_893, ww_894, ww_895, ww_896, ww_929, ww_930, ww_931, ww_932, ww_933, ww_934, ww_935, ww_936, ww_697, ww_700, ww_699, ww_713, ww_910, ww_911, ww_912, ww_913]
noncomputable def wsX9_laysPlaces_r4 : List Cond := [ww_701, ww_712, ww_709, ww_711, ww_706, ww_708, ww_707, ww_705, ww_704, ww_710, ww_791, ww_792, ww_793, ww_794, ww_787, ww_788, ww_789, ww_790, ww_795, ww_796, ww_797, ww_798, ww_914, ww_915]
noncomputable def wsX9_laysPlaces_r5 : List Cond := [ww_916, ww_687, ww_688, ww_689, ww_691, ww_686]
noncomputable def wsX9_laysPlaces : List Cond := .code yX9_laysPlaces cX9_laysPlaces 6 none :: ((wsX9_laysPlaces_r1 ++ (wsX9_laysPlaces_r2 ++ (wsX9_laysPlaces_r3 ++ (wsX9_laysPlaces_r4 ++ wsX9_laysPlaces_r5)))) ++ wsX90)
noncomputable def wsX9_order_r1 : List Cond := [ww_739, ww_684, ww_728, ww_978, ww_979, ww_980, ww_690, ww_981, ww_685, ww_723, ww_729, ww_917, ww_941, ww_942, ww_943, ww_918, ww_919, ww_920, ww_921, ww_888, ww_889, ww_890, ww_891, ww_922]
noncomputable def wsX9_order_r2 : List Cond := [ww_923, ww_924, ww_964, ww_965, ww_966, ww_967, ww_925, ww_926, ww_927, ww_928, ww_727, ww_897, ww_37, ww_38, ww_39, ww_892, ww_41, ww_42, ww_898, ww_899, ww_900, ww_901, ww_696, ww_902]
noncomputable def wsX9_order_r3 : List Cond := [ww_903, ww_904, ww_905, ww_698, ww_906, ww_907, ww_908, ww_909, ww_695, ww_893, ww_894, ww_895, ww_896, ww_929, ww_930, ww_931, ww_932, ww_933, ww_934, ww_935, ww_936, ww_697, ww_700, ww_699]
noncomputable def wsX9_order_r4 : List Cond := [ww_713, ww_910, ww_911, ww_912, ww_913, ww_701, ww_712, ww_709, ww_711, ww_706, ww_708, ww_707, ww_705, ww_704, ww_710, ww_791, ww_792, ww_793, ww_794, ww_787, ww_788, ww_789, ww_790, ww_795]
noncomputable def wsX9_order_r5 : List Cond := [ww_796, ww_797, ww_798, ww_914, ww_915, ww_916, ww_687, ww_688, ww_689, ww_691, ww_686]
noncomputable def wsX9_order : List Cond := .code yX9_order cX9_order 3 (some .int) :: ((wsX9_order_r1 ++ (wsX9_order_r2 ++ (wsX9_order_r3 ++ (wsX9_order_r4 ++ wsX9_order_r5)))) ++ wsX90)
noncomputable def wsX9_with_r1 : List Cond := [ww_739, ww_728, ww_684, ww_729, ww_937, ww_938, ww_939, ww_690, ww_940, ww_978, ww_979, ww_980, ww_981, ww_685, ww_723, ww_917, ww_941, ww_942, ww_943, ww_918, ww_919, ww_920, ww_921, ww_888]
noncomputable def wsX9_with_r2 : List Cond := [ww_889, ww_890, ww_891, ww_922, ww_923, ww_924, ww_964, ww_965, ww_966, ww_967, ww_925, ww_926, ww_927, ww_928, ww_727, ww_897, ww_37, ww_38, ww_39, ww_892, ww_41, ww_42, ww_898, ww_899]
noncomputable def wsX9_with_r3 : List Cond := [ww_900, ww_901, ww_696, ww_902, ww_903, ww_904, ww_905, ww_698, ww_906, ww_907, ww_908, ww_909, ww_695, ww_893, ww_894, ww_895, ww_896, ww_929, ww_930, ww_931, ww_932, ww_933, ww_934, ww_935]
noncomputable def wsX9_with_r4 : List Cond := [ww_936, ww_697, ww_700, ww_699, ww_713, ww_910, ww_911, ww_912, ww_913, ww_701, ww_712, ww_709, ww_711, ww_706, ww_708, ww_707, ww_705, ww_704, ww_710, ww_791, ww_792, ww_793, ww_794, ww_787]
noncomputable def wsX9_with_r5 : List Cond := [ww_788, ww_789, ww_790, ww_795, ww_796, ww_797, ww_798, ww_914, ww_915, ww_916, ww_687, ww_688, ww_689, ww_691, ww_686]
noncomputable def wsX9_with : List Cond := .code yX9_with cX9_with 4 (some .int) :: ((wsX9_with_r1 ++ (wsX9_with_r2 ++ (wsX9_with_r3 ++ (wsX9_with_r4 ++ wsX9_with_r5)))) ++ wsX90)
noncomputable def wsX9_later_r1 : List Cond := [ww_739, ww_685, ww_723, ww_937, ww_938, ww_939, ww_690, ww_940, ww_684, ww_816, ww_817, ww_818, ww_941, ww_942, ww_943, ww_964, ww_965, ww_966, ww_967, ww_917, ww_918, ww_919, ww_920, ww_921]
noncomputable def wsX9_later_r2 : List Cond := [ww_888, ww_889, ww_890, ww_891, ww_922, ww_923, ww_924, ww_925, ww_926, ww_927, ww_928, ww_727, ww_897, ww_37, ww_38, ww_39, ww_892, ww_41, ww_42, ww_898, ww_899, ww_900, ww_901, ww_696]
noncomputable def wsX9_later_r3 : List Cond := [ww_902, ww_903, ww_904, ww_905, ww_698, ww_906, ww_907, ww_908, ww_909, ww_695, ww_893, ww_894, ww_895, ww_896, ww_929, ww_930, ww_931, ww_932, ww_933, ww_934, ww_935, ww_936, ww_697, ww_700]
noncomputable def wsX9_later_r4 : List Cond := [ww_699, ww_713, ww_910, ww_911, ww_912, ww_913, ww_701, ww_712, ww_709, ww_711, ww_706, ww_708, ww_707, ww_705, ww_704, ww_710, ww_791, ww_792, ww_793, ww_794, ww_787, ww_788, ww_789, ww_790]
noncomputable def wsX9_later_r5 : List Cond := [ww_795, ww_796, ww_797, ww_798, ww_914, ww_915, ww_916, ww_687, ww_688, ww_689, ww_691, ww_686]
noncomputable def wsX9_later : List Cond := .code yX9_later cX9_later 4 (some .int) :: ((wsX9_later_r1 ++ (wsX9_later_r2 ++ (wsX9_later_r3 ++ (wsX9_later_r4 ++ wsX9_later_r5)))) ++ wsX90)
noncomputable def wsX9_nights_r1 : List Cond := [ww_739, ww_685, ww_723, ww_816, ww_817, ww_690, ww_818, ww_941, ww_942, ww_943, ww_964, ww_965, ww_966, ww_967, ww_684, ww_917, ww_918, ww_919, ww_920, ww_921, ww_888, ww_889, ww_890, ww_891]
noncomputable def wsX9_nights_r2 : List Cond := [ww_922, ww_923, ww_924, ww_925, ww_926, ww_927, ww_928, ww_727, ww_897, ww_37, ww_38, ww_39, ww_892, ww_41, ww_42, ww_898, ww_899, ww_900, ww_901, ww_696, ww_902, ww_903, ww_904, ww_905]
noncomputable def wsX9_nights_r3 : List Cond := [ww_698, ww_906, ww_907, ww_908, ww_909, ww_695, ww_893, ww_894, ww_895, ww_896, ww_929, ww_930, ww_931, ww_932, ww_933, ww_934, ww_935, ww_936, ww_697, ww_700, ww_699, ww_713, ww_910, ww_911]
noncomputable def wsX9_nights_r4 : List Cond := [ww_912, ww_913, ww_701, ww_712, ww_709, ww_711, ww_706, ww_708, ww_707, ww_705, ww_704, ww_710, ww_791, ww_792, ww_793, ww_794, ww_787, ww_788, ww_789, ww_790, ww_795, ww_796, ww_797, ww_798]
noncomputable def wsX9_nights_r5 : List Cond := [ww_914, ww_915, ww_916, ww_687, ww_688, ww_689, ww_691, ww_686]
noncomputable def wsX9_nights : List Cond := .code yX9_nights cX9_nights 5 (some .int) :: ((wsX9_nights_r1 ++ (wsX9_nights_r2 ++ (wsX9_nights_r3 ++ (wsX9_nights_r4 ++ wsX9_nights_r5)))) ++ wsX90)
noncomputable def wsX9_delay_r1 : List Cond := [ww_739, ww_685, ww_723, ww_972, ww_944, ww_945, ww_946, ww_690, ww_947, ww_937, ww_938, ww_939, ww_940, ww_684, ww_888, ww_889, ww_890, ww_891, ww_941, ww_942, ww_943, ww_952, ww_953, ww_954]
noncomputable def wsX9_delay_r2 : List Cond := [ww_955, ww_892, ww_41, ww_38, ww_42, ww_974, ww_975, ww_976, ww_977, ww_973, ww_964, ww_965, ww_966, ww_967, ww_917, ww_918, ww_919, ww_920, ww_921, ww_922, ww_923, ww_924, ww_925, ww_926]
noncomputable def wsX9_delay_r3 : List Cond := [ww_927, ww_928, ww_727, ww_897, ww_37, ww_39, ww_898, ww_899, ww_900, ww_901, ww_696, ww_902, ww_903, ww_904, ww_905, ww_698, ww_906, ww_907, ww_908, ww_909, ww_695, ww_893, ww_894, ww_895]
noncomputable def wsX9_delay_r4 : List Cond := [ww_896, ww_929, ww_930, ww_931, ww_932, ww_933, ww_934, ww_935, ww_936, ww_697, ww_700, ww_699, ww_713, ww_910, ww_911, ww_912, ww_913, ww_701, ww_712, ww_709, ww_711, ww_706, ww_708, ww_707]
noncomputable def wsX9_delay_r5 : List Cond := [ww_705, ww_704, ww_710, ww_791, ww_792, ww_793, ww_794, ww_787, ww_788, ww_789, ww_790, ww_795, ww_796, ww_797, ww_798, ww_914, ww_915, ww_916, ww_687, ww_688, ww_689, ww_691, ww_686]
noncomputable def wsX9_delay : List Cond := .code yX9_delay cX9_delay 3 (some .int) :: ((wsX9_delay_r1 ++ (wsX9_delay_r2 ++ (wsX9_delay_r3 ++ (wsX9_delay_r4 ++ wsX9_delay_r5)))) ++ wsX90)
noncomputable def wsX9_spare_r1 : List Cond := [ww_739, ww_685, ww_723, ww_972, ww_944, ww_945, ww_946, ww_690, ww_947, ww_937, ww_938, ww_939, ww_940, ww_684, ww_888, ww_889, ww_890, ww_891, ww_941, ww_942, ww_943, ww_956, ww_957, ww_958]
noncomputable def wsX9_spare_r2 : List Cond := [ww_959, ww_696, ww_892, ww_41, ww_38, ww_42, ww_974, ww_975, ww_976, ww_977, ww_973, ww_964, ww_965, ww_966, ww_967, ww_917, ww_918, ww_919, ww_920, ww_921, ww_922, ww_923, ww_924, ww_925]
noncomputable def wsX9_spare_r3 : List Cond := [ww_926, ww_927, ww_928, ww_727, ww_897, ww_37, ww_39, ww_898, ww_899, ww_900, ww_901, ww_902, ww_903, ww_904, ww_905, ww_698, ww_906, ww_907, ww_908, ww_909, ww_695, ww_893, ww_894, ww_895]
noncomputable def wsX9_spare_r4 : List Cond := [ww_896, ww_929, ww_930, ww_931, ww_932, ww_933, ww_934, ww_935, ww_936, ww_697, ww_700, ww_699, ww_713, ww_910, ww_911, ww_912, ww_913, ww_701, ww_712, ww_709, ww_711, ww_706, ww_708, ww_707]
noncomputable def wsX9_spare_r5 : List Cond := [ww_705, ww_704, ww_710, ww_791, ww_792, ww_793, ww_794, ww_787, ww_788, ww_789, ww_790, ww_795, ww_796, ww_797, ww_798, ww_914, ww_915, ww_916, ww_687, ww_688, ww_689, ww_691, ww_686]
noncomputable def wsX9_spare : List Cond := .code yX9_spare cX9_spare 3 (some .int) :: ((wsX9_spare_r1 ++ (wsX9_spare_r2 ++ (wsX9_spare_r3 ++ (wsX9_spare_r4 ++ wsX9_spare_r5)))) ++ wsX90)
noncomputable def wsX9_best_r1 : List Cond := [ww_739, ww_685, ww_723, ww_973, ww_941, ww_942, ww_690, ww_943, ww_974, ww_975, ww_976, ww_977, ww_972, ww_964, ww_965, ww_966, ww_967, ww_684, ww_917, ww_918, ww_919, ww_920, ww_921, ww_888]
noncomputable def wsX9_best_r2 : List Cond := [ww_889, ww_890, ww_891, ww_922, ww_923, ww_924, ww_925, ww_926, ww_927, ww_928, ww_727, ww_897, ww_37, ww_38, ww_39, ww_892, ww_41, ww_42, ww_898, ww_899, ww_900, ww_901, ww_696, ww_902]
noncomputable def wsX9_best_r3 : List Cond := [ww_903, ww_904, ww_905, ww_698, ww_906, ww_907, ww_908, ww_909, ww_695, ww_893, ww_894, ww_895, ww_896, ww_929, ww_930, ww_931, ww_932, ww_933, ww_934, ww_935, ww_936, ww_697, ww_700, ww_699]
noncomputable def wsX9_best_r4 : List Cond := [ww_713, ww_910, ww_911, ww_912, ww_913, ww_701, ww_712, ww_709, ww_711, ww_706, ww_708, ww_707, ww_705, ww_704, ww_710, ww_791, ww_792, ww_793, ww_794, ww_787, ww_788, ww_789, ww_790, ww_795]
noncomputable def wsX9_best_r5 : List Cond := [ww_796, ww_797, ww_798, ww_914, ww_915, ww_916, ww_687, ww_688, ww_689, ww_691, ww_686, ww_960, ww_961, ww_962, ww_963, ww_944, ww_945, ww_946, ww_947, ww_937, ww_938, ww_939, ww_940]
noncomputable def wsX9_best : List Cond := .code yX9_best cX9_best 6 (some .int) :: ((wsX9_best_r1 ++ (wsX9_best_r2 ++ (wsX9_best_r3 ++ (wsX9_best_r4 ++ wsX9_best_r5)))) ++ wsX90)
noncomputable def wsX9_excuse_r1 : List Cond := [ww_739, ww_685, ww_723, ww_972, ww_684, ww_937, ww_938, ww_939, ww_690, ww_940, ww_941, ww_942, ww_943, ww_974, ww_975, ww_976, ww_977, ww_973, ww_964, ww_965, ww_966, ww_967, ww_917, ww_918]
noncomputable def wsX9_excuse_r2 : List Cond := [ww_919, ww_920, ww_921, ww_888, ww_889, ww_890, ww_891, ww_922, ww_923, ww_924, ww_925, ww_926, ww_927, ww_928, ww_727, ww_897, ww_37, ww_38, ww_39, ww_892, ww_41, ww_42, ww_898, ww_899]
noncomputable def wsX9_excuse_r3 : List Cond := [ww_900, ww_901, ww_696, ww_902, ww_903, ww_904, ww_905, ww_698, ww_906, ww_907, ww_908, ww_909, ww_695, ww_893, ww_894, ww_895, ww_896, ww_929, ww_930, ww_931, ww_932, ww_933, ww_934, ww_935]
noncomputable def wsX9_excuse_r4 : List Cond := [ww_936, ww_697, ww_700, ww_699, ww_713, ww_910, ww_911, ww_912, ww_913, ww_701, ww_712, ww_709, ww_711, ww_706, ww_708, ww_707, ww_705, ww_704, ww_710, ww_791, ww_792, ww_793, ww_794, ww_787]
noncomputable def wsX9_excuse_r5 : List Cond := [ww_788, ww_789, ww_790, ww_795, ww_796, ww_797, ww_798, ww_914, ww_915, ww_916, ww_687, ww_688, ww_689, ww_691, ww_686, ww_952, ww_953, ww_954, ww_955]
noncomputable def wsX9_excuse : List Cond := .code yX9_excuse cX9_excuse 4 (some .int) :: ((wsX9_excuse_r1 ++ (wsX9_excuse_r2 ++ (wsX9_excuse_r3 ++ (wsX9_excuse_r4 ++ wsX9_excuse_r5)))) ++ wsX90)
noncomputable def wsX9_meets_r1 : List Cond := [ww_739, ww_685, ww_723, ww_937, ww_938, ww_939, ww_690, ww_940, ww_684, ww_941, ww_942, ww_943, ww_888, ww_889, ww_890, ww_891, ww_964, ww_965, ww_966, ww_967, ww_917, ww_918, ww_919, ww_920]
noncomputable def wsX9_meets_r2 : List Cond := [ww_921, ww_922, ww_923, ww_924, ww_925, ww_926, ww_927, ww_928, ww_727, ww_897, ww_37, ww_38, ww_39, ww_892, ww_41, ww_42, ww_898, ww_899, ww_900, ww_901, ww_696, ww_902, ww_903, ww_904]
noncomputable def wsX9_meets_r3 : List Cond := [ww_905, ww_698, ww_906, ww_907, ww_908, ww_909, ww_695, ww_893, ww_894, ww_895, ww_896, ww_929, ww_930, ww_931, ww_932, ww_933, ww_934, ww_935, ww_936, ww_697, ww_700, ww_699, ww_713, ww_910]
noncomputable def wsX9_meets_r4 : List Cond := [ww_911, ww_912, ww_913, ww_701, ww_712, ww_709, ww_711, ww_706, ww_708, ww_707, ww_705, ww_704, ww_710, ww_791, ww_792, ww_793, ww_794, ww_787, ww_788, ww_789, ww_790, ww_795, ww_796, ww_797]
noncomputable def wsX9_meets_r5 : List Cond := [ww_798, ww_914, ww_915, ww_916, ww_687, ww_688, ww_689, ww_691, ww_686]
noncomputable def wsX9_meets : List Cond := .code yX9_meets cX9_meets 4 (some .int) :: ((wsX9_meets_r1 ++ (wsX9_meets_r2 ++ (wsX9_meets_r3 ++ (wsX9_meets_r4 ++ wsX9_meets_r5)))) ++ wsX90)
noncomputable def wsX9_near : List Cond := .code yX9_near cX9_near 4 (some .int) :: ([ww_739, ww_684, ww_685, ww_816, ww_817, ww_690, ww_818, ww_888, ww_889, ww_890, ww_891] ++ wsX90)
noncomputable def wsX9_boy_r1 : List Cond := [ww_739, ww_685, ww_723, ww_816, ww_817, ww_690, ww_818, ww_941, ww_942, ww_943, ww_964, ww_965, ww_966, ww_967, ww_684, ww_917, ww_918, ww_919, ww_920, ww_921, ww_888, ww_889, ww_890, ww_891]
noncomputable def wsX9_boy_r2 : List Cond := [ww_922, ww_923, ww_924, ww_925, ww_926, ww_927, ww_928, ww_727, ww_897, ww_37, ww_38, ww_39, ww_892, ww_41, ww_42, ww_898, ww_899, ww_900, ww_901, ww_696, ww_902, ww_903, ww_904, ww_905]
noncomputable def wsX9_boy_r3 : List Cond := [ww_698, ww_906, ww_907, ww_908, ww_909, ww_695, ww_893, ww_894, ww_895, ww_896, ww_929, ww_930, ww_931, ww_932, ww_933, ww_934, ww_935, ww_936, ww_697, ww_700, ww_699, ww_713, ww_910, ww_911]
noncomputable def wsX9_boy_r4 : List Cond := [ww_912, ww_913, ww_701, ww_712, ww_709, ww_711, ww_706, ww_708, ww_707, ww_705, ww_704, ww_710, ww_791, ww_792, ww_793, ww_794, ww_787, ww_788, ww_789, ww_790, ww_795, ww_796, ww_797, ww_798]
noncomputable def wsX9_boy_r5 : List Cond := [ww_914, ww_915, ww_916, ww_687, ww_688, ww_689, ww_691, ww_686]
noncomputable def wsX9_boy : List Cond := .code yX9_boy cX9_boy 3 (some .int) :: ((wsX9_boy_r1 ++ (wsX9_boy_r2 ++ (wsX9_boy_r3 ++ (wsX9_boy_r4 ++ wsX9_boy_r5)))) ++ wsX90)
noncomputable def wsX9_held : List Cond := .code yX9_held cX9_held 4 (some .int) :: ([ww_739, ww_684, ww_685, ww_918, ww_919, ww_920, ww_690, ww_921, ww_888, ww_889, ww_890, ww_891, ww_906, ww_907, ww_908, ww_909, ww_695, ww_893, ww_894, ww_895, ww_896] ++ wsX90)
noncomputable def wsX9_fair : List Cond := .code yX9_fair cX9_fair 4 (some .int) :: ([ww_739, ww_684, ww_685, ww_897, ww_37, ww_38, ww_39, ww_892, ww_41, ww_42] ++ wsX90)
noncomputable def wsX9_laysYards_r1 : List Cond := [ww_685, ww_723, ww_684, ww_730, ww_941, ww_942, ww_690, ww_943, ww_964, ww_965, ww_966, ww_967, ww_917, ww_918, ww_919, ww_920, ww_921, ww_888, ww_889, ww_890, ww_891, ww_922, ww_923, ww_924]
noncomputable def wsX9_laysYards_r2 : List Cond := [ww_925, ww_926, ww_927, ww_928, ww_727, ww_897, ww_37, ww_38, ww_39, ww_892, ww_41, ww_42, ww_898, ww_899, ww_900, ww_901, ww_696, ww_902, ww_903, ww_904, ww_905, ww_698, ww_906, ww_907]
noncomputable def wsX9_laysYards_r3 : List Cond := [ww_908, ww_909, ww_695, ww_893, ww_894, ww_895, ww_896, ww_929, ww_930, ww_931, ww_932, ww_933, ww_934, ww_935, ww_936, ww_697, ww_700, ww_699, ww_713, ww_910, ww_911, ww_912, ww_913, ww_701]
noncomputable def wsX9_laysYards_r4 : List Cond := [ww_712, ww_709, ww_711, ww_706, ww_708, ww_707, ww_705, ww_704, ww_710, ww_791, ww_792, ww_793, ww_794, ww_787, ww_788, ww_789, ww_790, ww_795, ww_796, ww_797, ww_798, ww_914, ww_915, ww_916]
noncomputable def wsX9_laysYards_r5 : List Cond := [ww_687, ww_688, ww_689, ww_691, ww_686]
noncomputable def wsX9_laysYards : List Cond := .code yX9_laysYards cX9_laysYards 3 none :: ((wsX9_laysYards_r1 ++ (wsX9_laysYards_r2 ++ (wsX9_laysYards_r3 ++ (wsX9_laysYards_r4 ++ wsX9_laysYards_r5)))) ++ wsX90)
noncomputable def wsX9_see : List Cond := .code yX9_see cX9_see 4 (some .boolean) :: ([ww_739, ww_718, ww_719, ww_720, ww_721, ww_816, ww_817, ww_690, ww_818] ++ wsX90)
noncomputable def wsX9_isAsSeen : List Cond := .code yX9_isAsSeen cX9_isAsSeen 3 (some .boolean) :: ([ww_718, ww_730, ww_719, ww_720, ww_721] ++ wsX90)
noncomputable def wsX9_who_r1 : List Cond := [ww_739, ww_684, ww_982, ww_983, ww_984, ww_690, ww_985, ww_685, ww_723, ww_730, ww_941, ww_942, ww_943, ww_964, ww_965, ww_966, ww_967, ww_917, ww_918, ww_919, ww_920, ww_921, ww_888, ww_889]
noncomputable def wsX9_who_r2 : List Cond := [ww_890, ww_891, ww_922, ww_923, ww_924, ww_925, ww_926, ww_927, ww_928, ww_727, ww_897, ww_37, ww_38, ww_39, ww_892, ww_41, ww_42, ww_898, ww_899, ww_900, ww_901, ww_696, ww_902, ww_903]
noncomputable def wsX9_who_r3 : List Cond := [ww_904, ww_905, ww_698, ww_906, ww_907, ww_908, ww_909, ww_695, ww_893, ww_894, ww_895, ww_896, ww_929, ww_930, ww_931, ww_932, ww_933, ww_934, ww_935, ww_936, ww_697, ww_700, ww_699, ww_713]
noncomputable def wsX9_who_r4 : List Cond := [ww_910, ww_911, ww_912, ww_913, ww_701, ww_712, ww_709, ww_711, ww_706, ww_708, ww_707, ww_705, ww_704, ww_710, ww_791, ww_792, ww_793, ww_794, ww_787, ww_788, ww_789, ww_790, ww_795, ww_796]
noncomputable def wsX9_who_r5 : List Cond := [ww_797, ww_798, ww_914, ww_915, ww_916, ww_687, ww_688, ww_689, ww_691, ww_686, ww_986, ww_987, ww_988, ww_989, ww_718, ww_719, ww_720, ww_721]
noncomputable def wsX9_who : List Cond := .code yX9_who cX9_who 3 (some .int) :: ((wsX9_who_r1 ++ (wsX9_who_r2 ++ (wsX9_who_r3 ++ (wsX9_who_r4 ++ wsX9_who_r5)))) ++ wsX90)
noncomputable def wsX9_ask_r1 : List Cond := [ww_739, ww_684, ww_730, ww_897, ww_37, ww_38, ww_39, ww_990, ww_991, ww_992, ww_690, ww_993, ww_982, ww_983, ww_984, ww_985, ww_685, ww_723, ww_941, ww_942, ww_943, ww_964, ww_965, ww_966]
noncomputable def wsX9_ask_r2 : List Cond := [ww_967, ww_917, ww_918, ww_919, ww_920, ww_921, ww_888, ww_889, ww_890, ww_891, ww_922, ww_923, ww_924, ww_925, ww_926, ww_927, ww_928, ww_727, ww_892, ww_41, ww_42, ww_898, ww_899, ww_900]
noncomputable def wsX9_ask_r3 : List Cond := [ww_901, ww_696, ww_902, ww_903, ww_904, ww_905, ww_698, ww_906, ww_907, ww_908, ww_909, ww_695, ww_893, ww_894, ww_895, ww_896, ww_929, ww_930, ww_931, ww_932, ww_933, ww_934, ww_935, ww_936]
noncomputable def wsX9_ask_r4 : List Cond := [ww_697, ww_700, ww_699, ww_713, ww_910, ww_911, ww_912, ww_913, ww_701, ww_712, ww_709, ww_711, ww_706, ww_708, ww_707, ww_705, ww_704, ww_710, ww_791, ww_792, ww_793, ww_794, ww_787, ww_788]
noncomputable def wsX9_ask_r5 : List Cond := [ww_789, ww_790, ww_795, ww_796, ww_797, ww_798, ww_914, ww_915, ww_916, ww_687, ww_688, ww_689, ww_691, ww_686, ww_986, ww_987, ww_988, ww_989, ww_718, ww_719, ww_720, ww_721]
noncomputable def wsX9_ask : List Cond := .code yX9_ask cX9_ask 9 (some .int) :: ((wsX9_ask_r1 ++ (wsX9_ask_r2 ++ (wsX9_ask_r3 ++ (wsX9_ask_r4 ++ wsX9_ask_r5)))) ++ wsX90)
noncomputable def wsX9_chance_r1 : List Cond := [ww_739, ww_994, ww_685, ww_723, ww_727, ww_995, ww_944, ww_945, ww_946, ww_690, ww_947, ww_937, ww_938, ww_939, ww_940, ww_684, ww_888, ww_889, ww_890, ww_891, ww_816, ww_817, ww_818, ww_941]
noncomputable def wsX9_chance_r2 : List Cond := [ww_942, ww_943, ww_964, ww_965, ww_966, ww_967, ww_917, ww_918, ww_919, ww_920, ww_921, ww_922, ww_923, ww_924, ww_925, ww_926, ww_927, ww_928, ww_897, ww_37, ww_38, ww_39, ww_892, ww_41]
noncomputable def wsX9_chance_r3 : List Cond := [ww_42, ww_898, ww_899, ww_900, ww_901, ww_696, ww_902, ww_903, ww_904, ww_905, ww_698, ww_906, ww_907, ww_908, ww_909, ww_695, ww_893, ww_894, ww_895, ww_896, ww_929, ww_930, ww_931, ww_932]
noncomputable def wsX9_chance_r4 : List Cond := [ww_933, ww_934, ww_935, ww_936, ww_697, ww_700, ww_699, ww_713, ww_910, ww_911, ww_912, ww_913, ww_701, ww_712, ww_709, ww_711, ww_706, ww_708, ww_707, ww_705, ww_704, ww_710, ww_791, ww_792]
noncomputable def wsX9_chance_r5 : List Cond := [ww_793, ww_794, ww_787, ww_788, ww_789, ww_790, ww_795, ww_796, ww_797, ww_798, ww_914, ww_915, ww_916, ww_687, ww_688, ww_689, ww_691, ww_686]
noncomputable def wsX9_chance : List Cond := .code yX9_chance cX9_chance 14 (some .int) :: ((wsX9_chance_r1 ++ (wsX9_chance_r2 ++ (wsX9_chance_r3 ++ (wsX9_chance_r4 ++ wsX9_chance_r5)))) ++ wsX90)
noncomputable def wsX9_getsBy : List Cond := .code yX9_getsBy cX9_getsBy 5 (some .int) :: ([])
noncomputable def wsX9_rests : List Cond := .code yX9_rests cX9_rests 9 (some .int) :: ([ww_739, ww_816, ww_817, ww_690, ww_818, ww_996, ww_997, ww_998] ++ wsX90)
noncomputable def wsX9_draws : List Cond := .code yX9_draws cX9_draws 2 (some .int) :: ([ww_999, ww_1000, ww_1001, ww_1002, ww_1003] ++ wsX90)
noncomputable def wsX9_livesMinute_r1 : List Cond := [ww_684, ww_685, ww_1004, ww_1005, ww_1006, ww_690, ww_1007, ww_999, ww_1000, ww_1001, ww_1002, ww_1003, ww_888, ww_889, ww_890, ww_891, ww_952, ww_953, ww_954, ww_955, ww_892, ww_41, ww_38, ww_42]
noncomputable def wsX9_livesMinute_r2 : List Cond := [ww_956, ww_957, ww_958, ww_959, ww_696, ww_960, ww_961, ww_962, ww_963, ww_944, ww_945, ww_946, ww_947, ww_937, ww_938, ww_939, ww_940, ww_964, ww_965, ww_966, ww_967, ww_917, ww_918, ww_919]
noncomputable def wsX9_livesMinute_r3 : List Cond := [ww_920, ww_921, ww_922, ww_923, ww_924, ww_925, ww_926, ww_927, ww_928, ww_727, ww_897, ww_37, ww_39, ww_898, ww_899, ww_900, ww_901, ww_902, ww_903, ww_904, ww_905, ww_698, ww_906, ww_907]
noncomputable def wsX9_livesMinute_r4 : List Cond := [ww_908, ww_909, ww_695, ww_893, ww_894, ww_895, ww_896, ww_929, ww_930, ww_931, ww_932, ww_933, ww_934, ww_935, ww_936, ww_697, ww_700, ww_699, ww_713, ww_910, ww_911, ww_912, ww_913, ww_701]
noncomputable def wsX9_livesMinute_r5 : List Cond := [ww_712, ww_709, ww_711, ww_706, ww_708, ww_707, ww_705, ww_704, ww_710, ww_791, ww_792, ww_793, ww_794, ww_787, ww_788, ww_789, ww_790, ww_795, ww_796, ww_797, ww_798, ww_914, ww_915, ww_916]
noncomputable def wsX9_livesMinute_r6 : List Cond := [ww_687, ww_688, ww_689, ww_691, ww_686]
noncomputable def wsX9_livesMinute : List Cond := .code yX9_livesMinute cX9_livesMinute 4 none :: ((wsX9_livesMinute_r1 ++ (wsX9_livesMinute_r2 ++ (wsX9_livesMinute_r3 ++ (wsX9_livesMinute_r4 ++ (wsX9_livesMinute_r5 ++ wsX9_livesMinute_r6))))) ++ wsX90)
noncomputable def wsX9_years_r1 : List Cond := [ww_739, ww_1008, ww_999, ww_685, ww_722, ww_816, ww_817, ww_690, ww_818, ww_941, ww_942, ww_943, ww_1009, ww_1010, ww_1011, ww_1012, ww_684, ww_1004, ww_1005, ww_1006, ww_1007, ww_1000, ww_1001, ww_1002]
noncomputable def wsX9_years_r2 : List Cond := [ww_1003, ww_888, ww_889, ww_890, ww_891, ww_952, ww_953, ww_954, ww_955, ww_892, ww_41, ww_38, ww_42, ww_956, ww_957, ww_958, ww_959, ww_696, ww_960, ww_961, ww_962, ww_963, ww_944, ww_945]
noncomputable def wsX9_years_r3 : List Cond := [ww_946, ww_947, ww_937, ww_938, ww_939, ww_940, ww_964, ww_965, ww_966, ww_967, ww_917, ww_918, ww_919, ww_920, ww_921, ww_922, ww_923, ww_924, ww_925, ww_926, ww_927, ww_928, ww_727, ww_897]
noncomputable def wsX9_years_r4 : List Cond := [ww_37, ww_39, ww_898, ww_899, ww_900, ww_901, ww_902, ww_903, ww_904, ww_905, ww_698, ww_906, ww_907, ww_908, ww_909, ww_695, ww_893, ww_894, ww_895, ww_896, ww_929, ww_930, ww_931, ww_932]
noncomputable def wsX9_years_r5 : List Cond := [ww_933, ww_934, ww_935, ww_936, ww_697, ww_700, ww_699, ww_713, ww_910, ww_911, ww_912, ww_913, ww_701, ww_712, ww_709, ww_711, ww_706, ww_708, ww_707, ww_705, ww_704, ww_710, ww_791, ww_792]
noncomputable def wsX9_years_r6 : List Cond := [ww_793, ww_794, ww_787, ww_788, ww_789, ww_790, ww_795, ww_796, ww_797, ww_798, ww_914, ww_915, ww_916, ww_687, ww_688, ww_689, ww_691, ww_686]
noncomputable def wsX9_years : List Cond := .code yX9_years cX9_years 7 (some .int) :: ((wsX9_years_r1 ++ (wsX9_years_r2 ++ (wsX9_years_r3 ++ (wsX9_years_r4 ++ (wsX9_years_r5 ++ wsX9_years_r6))))) ++ wsX90)
noncomputable def wsX9_mark_r1 : List Cond := [ww_739, ww_726, ww_724, ww_685, ww_871, ww_816, ww_817, ww_690, ww_818, ww_884, ww_885, ww_886, ww_887, ww_714, ww_715, ww_716, ww_717, ww_1013, ww_1014, ww_1015, ww_1016, ww_718, ww_719, ww_720]
noncomputable def wsX9_mark_r2 : List Cond := [ww_721, ww_941, ww_942, ww_943]
noncomputable def wsX9_mark : List Cond := .code yX9_mark cX9_mark 5 (some .boolean) :: ((wsX9_mark_r1 ++ wsX9_mark_r2) ++ wsX90)
noncomputable def wsX9_count : List Cond := .code yX9_count cX9_count 2 (some .int) :: ([ww_739, ww_684, ww_685, ww_714, ww_718, ww_871, ww_741, ww_816, ww_817, ww_690, ww_818, ww_902, ww_903, ww_904, ww_905, ww_698, ww_918, ww_919, ww_920, ww_921, ww_888, ww_889, ww_890, ww_891] ++ wsX90)
noncomputable def wsJ9_max_7cf53 : List Cond := .code yJ9_max_7cf53 cJ9_max_7cf53 2 (some .int) :: ([])
noncomputable def wsJ9_min_7cf53 : List Cond := .code yJ9_min_7cf53 cJ9_min_7cf53 2 (some .int) :: ([])
noncomputable def wsL_rests : List Cond := .codeWith yL_rests cL_rests 7 (some .int) [(0, 14, 17, 13)] :: ([ww_1017, ww_1018, ww_1019, ww_1020, ww_218, ww_1021, ww_649, ww_650, ww_553, ww_217, ww_219, ww_651, ww_652, ww_653, ww_646, ww_647, ww_648] ++ (vx_atS RX8 265 "java/util/NoSuchElementException" ["java/lang/RuntimeException", "java/lang/Exception"]).filter goodWord)
noncomputable def wsL_law0_r1 : List Cond := [ww_1022, ww_1023, ww_218, ww_1024, ww_1025, ww_690, ww_391, ww_1026, ww_1027, ww_1028, ww_1029, ww_461, ww_1, ww_2, ww_462, ww_463, ww_20, ww_464, ww_465, ww_466, ww_209, ww_467, ww_468, ww_469]
noncomputable def wsL_law0_r2 : List Cond := [ww_347, ww_214, ww_470, ww_471, ww_472, ww_344, ww_252, ww_473, ww_474, ww_475, ww_350, ww_351, ww_476, ww_477, ww_478, ww_479, ww_480, ww_481, ww_482, ww_483, ww_484, ww_485, ww_486, ww_487]
noncomputable def wsL_law0_r3 : List Cond := [ww_389, ww_390, ww_14, ww_16, ww_392, ww_100, ww_101, ww_34, ww_102, ww_30, ww_31, ww_32, ww_33, ww_35, ww_28, ww_29, ww_393, ww_394, ww_395, ww_396, ww_95, ww_96, ww_97, ww_98]
noncomputable def wsL_law0_r4 : List Cond := [ww_383, ww_384, ww_45, ww_385, ww_376, ww_377, ww_378, ww_50, ww_373, ww_374, ww_53, ww_375, ww_386, ww_387, ww_57, ww_388, ww_380, ww_381, ww_382, ww_55, ww_56, ww_58, ww_379, ww_65]
noncomputable def wsL_law0_r5 : List Cond := [ww_66, ww_67, ww_62, ww_63, ww_64, ww_18, ww_19, ww_21, ww_22, ww_23, ww_24, ww_10, ww_488, ww_489, ww_399, ww_200, ww_3, ww_400, ww_401, ww_402, ww_403, ww_261, ww_404, ww_405]
noncomputable def wsL_law0_r6 : List Cond := [ww_147, ww_406, ww_407, ww_408, ww_409, ww_410, ww_0, ww_4, ww_5, ww_6, ww_355, ww_356, ww_190, ww_191, ww_192, ww_193, ww_353, ww_354, ww_336, ww_246, ww_254, ww_247, ww_255, ww_272]
noncomputable def wsL_law0_r7 : List Cond := [ww_273, ww_290, ww_291, ww_357, ww_358, ww_337, ww_338, ww_339, ww_340, ww_341, ww_490, ww_491, ww_492, ww_359, ww_360, ww_361, ww_493, ww_494, ww_342, ww_343, ww_345, ww_346, ww_348, ww_349]
noncomputable def wsL_law0_r8 : List Cond := [ww_352, ww_1030, ww_1031, ww_1032, ww_692, ww_693, ww_684, ww_694, ww_695, ww_686, ww_696, ww_697, ww_698, ww_699, ww_700, ww_701, ww_702, ww_703, ww_704, ww_705, ww_706, ww_707, ww_708, ww_709]
noncomputable def wsL_law0_r9 : List Cond := [ww_710, ww_711, ww_712, ww_713, ww_714, ww_715, ww_716, ww_717, ww_718, ww_719, ww_720, ww_721, ww_685, ww_722, ww_723, ww_724, ww_725, ww_726, ww_727, ww_728, ww_729, ww_730, ww_731, ww_732]
noncomputable def wsL_law0_r10 : List Cond := [ww_733, ww_734, ww_735, ww_736, ww_737, ww_738, ww_687, ww_688, ww_689, ww_691, ww_1033, ww_1034, ww_1035, ww_1036, ww_495, ww_496, ww_497, ww_498, ww_499, ww_397, ww_13, ww_1037, ww_1038, ww_1039]
noncomputable def wsL_law0_r11 : List Cond := [ww_1040, ww_739, ww_740, ww_741, ww_1041, ww_1042, ww_1043, ww_1044, ww_514, ww_515, ww_516, ww_517, ww_518, ww_12, ww_9, ww_143, ww_130, ww_131, ww_132, ww_8, ww_17, ww_15, ww_113, ww_114]
noncomputable def wsL_law0_r12 : List Cond := [ww_115, ww_116, ww_11, ww_25, ww_26, ww_27, ww_117, ww_118, ww_119, ww_120, ww_121, ww_122, ww_123, ww_124, ww_109, ww_110, ww_111, ww_112, ww_99, ww_103, ww_104, ww_105, ww_36, ww_37]
noncomputable def wsL_law0_r13 : List Cond := [ww_38, ww_39, ww_40, ww_41, ww_42, ww_43, ww_44, ww_46, ww_47, ww_48, ww_49, ww_106, ww_107, ww_108, ww_86, ww_87, ww_88, ww_89, ww_90, ww_91, ww_68, ww_69, ww_70, ww_59]
noncomputable def wsL_law0_r14 : List Cond := [ww_60, ww_61, ww_51, ww_52, ww_54, ww_71, ww_72, ww_73, ww_92, ww_93, ww_94, ww_76, ww_77, ww_78, ww_79, ww_80, ww_81, ww_82, ww_74, ww_83, ww_84, ww_85, ww_75, ww_519]
noncomputable def wsL_law0_r15 : List Cond := [ww_520, ww_521, ww_522, ww_434, ww_435, ww_436, ww_437, ww_199, ww_260, ww_411, ww_412, ww_413, ww_414, ww_415, ww_416, ww_7, ww_438, ww_238, ww_239, ww_240, ww_427, ww_168, ww_169, ww_170]
noncomputable def wsL_law0_r16 : List Cond := [ww_439, ww_440, ww_441, ww_442, ww_422, ww_423, ww_126, ww_127, ww_128, ww_424, ww_425, ww_203, ww_204, ww_205, ww_426, ww_207, ww_208, ww_210, ww_428, ww_429, ww_430, ww_417, ww_418, ww_419]
noncomputable def wsL_law0_r17 : List Cond := [ww_420, ww_398, ww_134, ww_135, ww_136, ww_142, ww_421, ww_230, ww_231, ww_232, ww_220, ww_221, ww_222, ww_223, ww_217, ww_219, ww_443, ww_444, ww_445, ww_446, ww_447, ww_448, ww_449, ww_450]
noncomputable def wsL_law0_r18 : List Cond := [ww_451, ww_452, ww_453, ww_454, ww_431, ww_432, ww_164, ww_165, ww_166, ww_433, ww_455, ww_456, ww_457, ww_458, ww_125, ww_129, ww_459, ww_155, ww_156, ww_175, ww_144, ww_145, ww_146, ww_148]
noncomputable def wsL_law0_r19 : List Cond := [ww_149, ww_150, ww_133, ww_137, ww_138, ww_139, ww_140, ww_151, ww_152, ww_153, ww_154, ww_157, ww_158, ww_159, ww_160, ww_161, ww_162, ww_163, ww_167, ww_171, ww_172, ww_173, ww_174, ww_141]
noncomputable def wsL_law0_r20 : List Cond := [ww_460, ww_523, ww_524, ww_525, ww_526, ww_527, ww_528, ww_529, ww_530, ww_500, ww_501, ww_502, ww_503, ww_504, ww_289, ww_286, ww_296, ww_297, ww_298, ww_299, ww_274, ww_264, ww_262, ww_283]
noncomputable def wsL_law0_r21 : List Cond := [ww_284, ww_505, ww_234, ww_235, ww_236, ww_194, ww_506, ww_507, ww_508, ww_509, ww_369, ww_510, ww_511, ww_512, ww_513, ww_362, ww_1045, ww_1046, ww_1047, ww_1048, ww_754, ww_871, ww_872, ww_873]
noncomputable def wsL_law0_r22 : List Cond := [ww_874, ww_875, ww_839, ww_755, ww_747, ww_799, ww_803, ww_804, ww_805, ww_806, ww_844, ww_845, ww_846, ww_847, ww_742, ww_743, ww_783, ww_784, ww_785, ww_786, ww_744, ww_745, ww_746, ww_748]
noncomputable def wsL_law0_r23 : List Cond := [ww_749, ww_750, ww_751, ww_752, ww_753, ww_767, ww_768, ww_769, ww_770, ww_848, ww_849, ww_850, ww_851, ww_811, ww_812, ww_813, ww_814, ww_800, ww_815, ww_801, ww_802, ww_775, ww_776, ww_777]
noncomputable def wsL_law0_r24 : List Cond := [ww_778, ww_823, ww_824, ww_825, ww_826, ww_807, ww_808, ww_809, ww_810, ww_760, ww_761, ww_762, ww_827, ww_828, ww_829, ww_830, ww_831, ww_832, ww_833, ww_834, ww_819, ww_820, ww_821, ww_822]
noncomputable def wsL_law0_r25 : List Cond := [ww_816, ww_817, ww_818, ww_835, ww_836, ww_837, ww_838, ww_771, ww_772, ww_773, ww_774, ww_852, ww_853, ww_854, ww_855, ww_856, ww_857, ww_858, ww_859, ww_860, ww_861, ww_862, ww_863, ww_840]
noncomputable def wsL_law0_r26 : List Cond := [ww_841, ww_842, ww_843, ww_763, ww_764, ww_765, ww_766, ww_756, ww_757, ww_758, ww_759, ww_779, ww_780, ww_781, ww_782, ww_876, ww_877, ww_878, ww_879, ww_864, ww_865, ww_866, ww_1049, ww_1050]
noncomputable def wsL_law0_r27 : List Cond := [ww_1051, ww_1052, ww_531, ww_532, ww_533, ww_534, ww_233, ww_237, ww_241, ww_242, ww_243, ww_244, ww_224, ww_211, ww_216, ww_212, ww_213, ww_215, ww_201, ww_202, ww_206, ww_225, ww_226, ww_227]
noncomputable def wsL_law0_r28 : List Cond := [ww_228, ww_229, ww_245, ww_1053, ww_1054, ww_1055, ww_1056, ww_880, ww_881, ww_882, ww_883, ww_867, ww_868, ww_869, ww_870, ww_884, ww_885, ww_886, ww_887, ww_1057, ww_1058, ww_1059, ww_1060, ww_536]
noncomputable def wsL_law0_r29 : List Cond := [ww_537, ww_538, ww_539, ww_540, ww_541, ww_542, ww_543, ww_544, ww_545, ww_546, ww_547, ww_535, ww_1061, ww_1062, ww_1063, ww_1064, ww_937, ww_938, ww_939, ww_940, ww_898, ww_899, ww_900, ww_901]
noncomputable def wsL_law0_r30 : List Cond := [ww_892, ww_1065, ww_1066, ww_1067, ww_1068, ww_549, ww_550, ww_551, ww_552, ww_548, ww_250, ww_251, ww_253, ww_553, ww_554, ww_555, ww_556, ww_557, ww_364, ww_365, ww_366, ww_367, ww_368, ww_363]
noncomputable def wsL_law0_r31 : List Cond := [ww_196, ww_197, ww_198, ww_558, ww_321, ww_322, ww_323, ww_248, ww_249, ww_1069, ww_1070, ww_1071, ww_1072, ww_944, ww_945, ww_946, ww_947, ww_888, ww_889, ww_890, ww_891, ww_948, ww_949, ww_950]
noncomputable def wsL_law0_r32 : List Cond := [ww_951, ww_941, ww_942, ww_943, ww_952, ww_953, ww_954, ww_955, ww_1073, ww_1074, ww_1075, ww_1076, ww_559, ww_325, ww_326, ww_327, ww_1077, ww_1078, ww_1079, ww_1080, ww_956, ww_957, ww_958, ww_959]
noncomputable def wsL_law0_r33 : List Cond := [ww_1081, ww_1082, ww_1083, ww_1084, ww_560, ww_257, ww_258, ww_259, ww_561, ww_329, ww_330, ww_331, ww_256, ww_1085, ww_1086, ww_1087, ww_1088, ww_960, ww_961, ww_962, ww_963, ww_1089, ww_1090, ww_1091]
noncomputable def wsL_law0_r34 : List Cond := [ww_1092, ww_562, ww_333, ww_334, ww_335, ww_312, ww_313, ww_314, ww_315, ww_316, ww_317, ww_318, ww_319, ww_300, ww_301, ww_302, ww_303, ww_269, ww_270, ww_271, ww_275, ww_276, ww_277, ww_278]
noncomputable def wsL_law0_r35 : List Cond := [ww_263, ww_265, ww_266, ww_267, ww_268, ww_304, ww_305, ww_306, ww_307, ww_279, ww_280, ww_281, ww_282, ww_308, ww_309, ww_310, ww_311, ww_285, ww_287, ww_288, ww_292, ww_293, ww_294, ww_295]
noncomputable def wsL_law0_r36 : List Cond := [ww_176, ww_184, ww_185, ww_186, ww_187, ww_188, ww_189, ww_177, ww_178, ww_179, ww_180, ww_181, ww_182, ww_183, ww_1093, ww_1094, ww_1095, ww_1096, ww_964, ww_965, ww_966, ww_967, ww_917, ww_918]
noncomputable def wsL_law0_r37 : List Cond := [ww_919, ww_920, ww_921, ww_922, ww_923, ww_924, ww_925, ww_926, ww_927, ww_928, ww_897, ww_902, ww_903, ww_904, ww_905, ww_906, ww_907, ww_908, ww_909, ww_893, ww_894, ww_895, ww_896, ww_929]
noncomputable def wsL_law0_r38 : List Cond := [ww_930, ww_931, ww_932, ww_933, ww_934, ww_935, ww_936, ww_910, ww_911, ww_912, ww_913, ww_791, ww_792, ww_793, ww_794, ww_787, ww_788, ww_789, ww_790, ww_795, ww_796, ww_797, ww_798, ww_914]
noncomputable def wsL_law0_r39 : List Cond := [ww_915, ww_916, ww_1097, ww_1098, ww_1099, ww_1100, ww_563, ww_564, ww_565, ww_566, ww_1101, ww_1102, ww_1103, ww_1104, ww_1105, ww_1106, ww_1107, ww_1108, ww_567, ww_568, ww_569, ww_570, ww_571, ww_572]
noncomputable def wsL_law0_r40 : List Cond := [ww_573, ww_320, ww_324, ww_328, ww_332, ww_1109, ww_1110, ww_1111, ww_1112, ww_968, ww_969, ww_970, ww_971, ww_1113, ww_1114, ww_1115, ww_1116, ww_574, ww_575, ww_576, ww_577, ww_578, ww_1117, ww_1118]
noncomputable def wsL_law0_r41 : List Cond := [ww_1119, ww_1120, ww_974, ww_975, ww_976, ww_977, ww_972, ww_973, ww_1121, ww_1122, ww_1123, ww_1124, ww_580, ww_581, ww_582, ww_583, ww_579, ww_1125, ww_1126, ww_1127, ww_1128, ww_1129, ww_1130, ww_1131]
noncomputable def wsL_law0_r42 : List Cond := [ww_1132, ww_584, ww_585, ww_586, ww_587, ww_588, ww_589, ww_1133, ww_1134, ww_1135, ww_1136, ww_978, ww_979, ww_980, ww_981, ww_1137, ww_1138, ww_1139, ww_1140, ww_590, ww_591, ww_592, ww_593, ww_1141]
noncomputable def wsL_law0_r43 : List Cond := [ww_1142, ww_1143, ww_1144, ww_1145, ww_1146, ww_1147, ww_1148, ww_1149, ww_1150, ww_1151, ww_1152, ww_1153, ww_1154, ww_1155, ww_1156, ww_1157, ww_1158, ww_1159, ww_1160, ww_1161, ww_1162, ww_1163, ww_1164, ww_1165]
noncomputable def wsL_law0_r44 : List Cond := [ww_1166, ww_1167, ww_1168, ww_1169, ww_1170, ww_1171, ww_1172, ww_594, ww_595, ww_596, ww_597, ww_1173, ww_1174, ww_1175, ww_1176, ww_1177, ww_1178, ww_1179, ww_1180, ww_1181, ww_1182, ww_1183, ww_1184, ww_1185]
noncomputable def wsL_law0_r45 : List Cond := [ww_1186, ww_1187, ww_1188, ww_1189, ww_1190, ww_1191, ww_1192, ww_1193, ww_1194, ww_1195, ww_1196, ww_598, ww_599, ww_600, ww_601, ww_1197, ww_1198, ww_1199, ww_1200, ww_1201, ww_1202, ww_1203, ww_1204, ww_602]
noncomputable def wsL_law0_r46 : List Cond := [ww_603, ww_604, ww_605, ww_606, ww_1205, ww_1206, ww_1207, ww_1208, ww_1209, ww_1210, ww_1211, ww_1212, ww_1213, ww_1214, ww_1215, ww_1216, ww_1217, ww_1218, ww_1219, ww_1220, ww_607, ww_608, ww_1221, ww_1222]
noncomputable def wsL_law0_r47 : List Cond := [ww_1223, ww_1224, ww_1225, ww_1226, ww_1227, ww_1228, ww_609, ww_610, ww_1229, ww_1230, ww_1231, ww_1232, ww_1233, ww_1234, ww_1235, ww_1236, ww_611, ww_612, ww_613, ww_614, ww_1237, ww_1238, ww_1239, ww_1240]
noncomputable def wsL_law0_r48 : List Cond := [ww_1241, ww_1242, ww_1243, ww_1244, ww_623, ww_624, ww_625, ww_626, ww_615, ww_616, ww_617, ww_618, ww_371, ww_619, ww_620, ww_621, ww_622, ww_372, ww_1245, ww_991, ww_992, ww_993, ww_982, ww_983]
noncomputable def wsL_law0_r49 : List Cond := [ww_984, ww_985, ww_986, ww_987, ww_988, ww_989, ww_1246, ww_1247, ww_1248, ww_1249, ww_630, ww_631, ww_632, ww_633, ww_627, ww_628, ww_629, ww_634, ww_635, ww_636, ww_637, ww_1250, ww_1251, ww_1252]
noncomputable def wsL_law0_r50 : List Cond := [ww_1253, ww_990, ww_1254, ww_1255, ww_1256, ww_1257, ww_639, ww_640, ww_641, ww_642, ww_638, ww_643, ww_644, ww_645, ww_1258, ww_1259, ww_1260, ww_1261, ww_994, ww_995, ww_1262, ww_1263, ww_1264, ww_1265]
noncomputable def wsL_law0_r51 : List Cond := [ww_1017, ww_1018, ww_1019, ww_1020, ww_1021, ww_649, ww_650, ww_651, ww_652, ww_653, ww_646, ww_647, ww_648, ww_1266, ww_1267, ww_1268, ww_1269, ww_996, ww_997, ww_998, ww_1270, ww_1271, ww_1272, ww_1273]
noncomputable def wsL_law0_r52 : List Cond := [ww_663, ww_654, ww_664, ww_665, ww_666, ww_667, ww_659, ww_660, ww_661, ww_662, ww_655, ww_656, ww_657, ww_658, ww_1274, ww_1275, ww_1276, ww_1277, ww_1008, ww_999, ww_1009, ww_1010, ww_1011, ww_1012]
noncomputable def wsL_law0_r53 : List Cond := [ww_1004, ww_1005, ww_1006, ww_1007, ww_1000, ww_1001, ww_1002, ww_1003, ww_1278, ww_1279, ww_1280, ww_1281, ww_668, ww_669, ww_670, ww_671, ww_672, ww_673, ww_674, ww_195, ww_675, ww_676, ww_677, ww_678]
noncomputable def wsL_law0_r54 : List Cond := [ww_370, ww_1282, ww_1283, ww_1284, ww_1285, ww_1013, ww_1014, ww_1015, ww_1016, ww_1286, ww_1287, ww_1288, ww_1289, ww_679, ww_680, ww_681, ww_682, ww_683, ww_1290, ww_1291, ww_1292, ww_1293]
noncomputable def wsL_law0 : List Cond := (wsL_law0_r1 ++ (wsL_law0_r2 ++ (wsL_law0_r3 ++ (wsL_law0_r4 ++ (wsL_law0_r5 ++ (wsL_law0_r6 ++ (wsL_law0_r7 ++ (wsL_law0_r8 ++ (wsL_law0_r9 ++ (wsL_law0_r10 ++ (wsL_law0_r11 ++ (wsL_law0_r12 ++ (wsL_law0_r13 ++ (wsL_law0_r14 ++ (wsL_law0_r15 ++ (wsL_law0_r16 ++ (wsL_law0_r17 ++ (wsL_law0_r18 ++ (wsL_law0_r19 ++ (wsL_law0_r20 ++ (wsL_law0_r21 ++ (wsL_law0_r22 ++ (wsL_law0_r23 ++ (wsL_law0_r24 ++ (wsL_law0_r25 ++ (wsL_law0_r26 ++ (wsL_law0_r27 ++ (wsL_law0_r28 ++ (wsL_law0_r29 ++ (wsL_law0_r30 ++ (wsL_law0_r31 ++ (wsL_law0_r32 ++ (wsL_law0_r33 ++ (wsL_law0_r34 ++ (wsL_law0_r35 ++ (wsL_law0_r36 ++ (wsL_law0_r37 ++ (wsL_law0_r38 ++ (wsL_law0_r39 ++ (wsL_law0_r40 ++ (wsL_law0_r41 ++ (wsL_law0_r42 ++ (wsL_law0_r43 ++ (wsL_law0_r44 ++ (wsL_law0_r45 ++ (wsL_law0_r46 ++ (wsL_law0_r47 ++ (wsL_law0_r48 ++ (wsL_law0_r49 ++ (wsL_law0_r50 ++ (wsL_law0_r51 ++ (wsL_law0_r52 ++ (wsL_law0_r53 ++ wsL_law0_r54))))))))))))))))))))))))))))))))))))))))))))))))))))) ++ wsX80 ++ wsX90 ++ wsX60 ++ wsX70 ++ wsX10 ++ wsX40 ++ wsX50 ++ wsX30 ++ wsX20 ++ wsX00 ++ ([] : List Cond)
noncomputable def wsL_law : List Cond := wsL_law0 ++ (vx_atS RX8 265 "java/util/NoSuchElementException" ["java/lang/RuntimeException", "java/lang/Exception"]).filter goodWord
abbrev vwCl : List vw_C := [(RX0, TX0, 5), (RX1, TX1, 4), (RX2, TX2, 4), (RX3, TX3, 3), (RX4, TX4, 13), (RX5, TX5, 4), (RX6, TX6, 9), (RX7, TX7, 13), (RX8, TX8, 11), (RX9, TX9, 58)]
set_option maxRecDepth 20000 in
theorem gw_J0_charAt_5068e : wsJ0_charAt_5068e.all goodWord = true := by decide +kernel
set_option maxRecDepth 20000 in
theorem gw_J0_checkIndex_df160 : wsJ0_checkIndex_df160.all goodWord = true := by decide +kernel
set_option maxRecDepth 20000 in
theorem gw_J0_coder_7d493 : wsJ0_coder_7d493.all goodWord = true := by decide +kernel
set_option maxRecDepth 20000 in
theorem gw_J0_indexOf_0f7a4 : wsJ0_indexOf_0f7a4.all goodWord = true := by decide +kernel
set_option maxRecDepth 20000 in
theorem gw_J0_indexOf_7cf53 : wsJ0_indexOf_7cf53.all goodWord = true := by decide +kernel
set_option maxRecDepth 20000 in
theorem gw_J0_isLatin1_aae02 : wsJ0_isLatin1_aae02.all goodWord = true := by decide +kernel
set_option maxRecDepth 20000 in
theorem gw_J0_length_8abf5 : wsJ0_length_8abf5.all goodWord = true := by decide +kernel
set_option maxRecDepth 20000 in
theorem gw_J1_canEncode_9a6ad : wsJ1_canEncode_9a6ad.all goodWord = true := by decide +kernel
set_option maxRecDepth 20000 in
theorem gw_J1_charAt_3b067 : wsJ1_charAt_3b067.all goodWord = true := by decide +kernel
set_option maxRecDepth 20000 in
theorem gw_J1_indexOfChar_4cfef : wsJ1_indexOfChar_4cfef.all goodWord = true := by decide +kernel
set_option maxRecDepth 20000 in
theorem gw_J1_indexOf_4cfef : wsJ1_indexOf_4cfef.all goodWord = true := by decide +kernel
set_option maxRecDepth 20000 in
theorem gw_J3_checkIndex_8e157 : wsJ3_checkIndex_8e157.all goodWord = true := by decide +kernel
set_option maxRecDepth 20000 in
theorem gw_J6_bitCount_0f7a4 : wsJ6_bitCount_0f7a4.all goodWord = true := by decide +kernel
set_option maxRecDepth 20000 in
theorem gw_X0_clear : wsX0_clear.all goodWord = true := by decide +kernel
set_option maxRecDepth 20000 in
theorem gw_X0_init : wsX0_init.all goodWord = true := by decide +kernel
set_option maxRecDepth 20000 in
theorem gw_X0_join : wsX0_join.all goodWord = true := by decide +kernel
set_option maxRecDepth 20000 in
theorem gw_X0_operatorAt : wsX0_operatorAt.all goodWord = true := by decide +kernel
set_option maxRecDepth 20000 in
theorem gw_X0_push : wsX0_push.all goodWord = true := by decide +kernel
set_option maxRecDepth 20000 in
theorem gw_X0_readOver : wsX0_readOver.all goodWord = true := by decide +kernel
set_option maxRecDepth 20000 in
theorem gw_X0_readPart : wsX0_readPart.all goodWord = true := by decide +kernel
set_option maxRecDepth 20000 in
theorem gw_X0_takeTastes : wsX0_takeTastes.all goodWord = true := by decide +kernel
set_option maxRecDepth 20000 in
theorem gw_X0_taste : wsX0_taste.all goodWord = true := by decide +kernel
set_option maxRecDepth 20000 in
theorem gw_X0_tightnessOf : wsX0_tightnessOf.all goodWord = true := by decide +kernel
set_option maxRecDepth 20000 in
theorem gw_X0_work : wsX0_work.all goodWord = true := by decide +kernel
set_option maxRecDepth 20000 in
theorem gw_X0_write : wsX0_write.all goodWord = true := by decide +kernel
set_option maxRecDepth 20000 in
theorem gw_X1_clear : wsX1_clear.all goodWord = true := by decide +kernel
set_option maxRecDepth 20000 in
theorem gw_X1_copyFrom : wsX1_copyFrom.all goodWord = true := by decide +kernel
set_option maxRecDepth 20000 in
theorem gw_X1_init : wsX1_init.all goodWord = true := by decide +kernel
set_option maxRecDepth 20000 in
theorem gw_X1_play : wsX1_play.all goodWord = true := by decide +kernel
set_option maxRecDepth 20000 in
theorem gw_X1_read : wsX1_read.all goodWord = true := by decide +kernel
set_option maxRecDepth 20000 in
theorem gw_X1_readHired : wsX1_readHired.all goodWord = true := by decide +kernel
set_option maxRecDepth 20000 in
theorem gw_X1_readLine : wsX1_readLine.all goodWord = true := by decide +kernel
set_option maxRecDepth 20000 in
theorem gw_X1_readName : wsX1_readName.all goodWord = true := by decide +kernel
set_option maxRecDepth 20000 in
theorem gw_X2_init : wsX2_init.all goodWord = true := by decide +kernel
set_option maxRecDepth 20000 in
theorem gw_X3_clear : wsX3_clear.all goodWord = true := by decide +kernel
set_option maxRecDepth 20000 in
theorem gw_X3_giveBack : wsX3_giveBack.all goodWord = true := by decide +kernel
set_option maxRecDepth 20000 in
theorem gw_X3_init : wsX3_init.all goodWord = true := by decide +kernel
set_option maxRecDepth 20000 in
theorem gw_X3_keep : wsX3_keep.all goodWord = true := by decide +kernel
set_option maxRecDepth 20000 in
theorem gw_X4_atPlace : wsX4_atPlace.all goodWord = true := by decide +kernel
set_option maxRecDepth 20000 in
theorem gw_X4_begin : wsX4_begin.all goodWord = true := by decide +kernel
set_option maxRecDepth 20000 in
theorem gw_X4_beginNight : wsX4_beginNight.all goodWord = true := by decide +kernel
set_option maxRecDepth 20000 in
theorem gw_X4_cameIn : wsX4_cameIn.all goodWord = true := by decide +kernel
set_option maxRecDepth 20000 in
theorem gw_X4_canEngage : wsX4_canEngage.all goodWord = true := by decide +kernel
set_option maxRecDepth 20000 in
theorem gw_X4_cookAtTable : wsX4_cookAtTable.all goodWord = true := by decide +kernel
set_option maxRecDepth 20000 in
theorem gw_X4_copyFrom : wsX4_copyFrom.all goodWord = true := by decide +kernel
set_option maxRecDepth 20000 in
theorem gw_X4_eat : wsX4_eat.all goodWord = true := by decide +kernel
set_option maxRecDepth 20000 in
theorem gw_X4_engage : wsX4_engage.all goodWord = true := by decide +kernel
set_option maxRecDepth 20000 in
theorem gw_X4_goOn : wsX4_goOn.all goodWord = true := by decide +kernel
set_option maxRecDepth 20000 in
theorem gw_X4_holdingBack : wsX4_holdingBack.all goodWord = true := by decide +kernel
set_option maxRecDepth 20000 in
theorem gw_X4_init : wsX4_init.all goodWord = true := by decide +kernel
set_option maxRecDepth 20000 in
theorem gw_X4_isOnRoad : wsX4_isOnRoad.all goodWord = true := by decide +kernel
set_option maxRecDepth 20000 in
theorem gw_X4_isSomeoneOutWhoIsNotGreat : wsX4_isSomeoneOutWhoIsNotGreat.all goodWord = true := by decide +kernel
set_option maxRecDepth 20000 in
theorem gw_X4_loseWheel : wsX4_loseWheel.all goodWord = true := by decide +kernel
set_option maxRecDepth 20000 in
theorem gw_X4_noFarther : wsX4_noFarther.all goodWord = true := by decide +kernel
set_option maxRecDepth 20000 in
theorem gw_X4_onRoadWithin : wsX4_onRoadWithin.all goodWord = true := by decide +kernel
set_option maxRecDepth 20000 in
theorem gw_X4_pass : wsX4_pass.all goodWord = true := by decide +kernel
set_option maxRecDepth 20000 in
theorem gw_X4_passBySnow : wsX4_passBySnow.all goodWord = true := by decide +kernel
set_option maxRecDepth 20000 in
theorem gw_X4_quicken : wsX4_quicken.all goodWord = true := by decide +kernel
set_option maxRecDepth 20000 in
theorem gw_X4_walk : wsX4_walk.all goodWord = true := by decide +kernel
set_option maxRecDepth 20000 in
theorem gw_X4_walkOn : wsX4_walkOn.all goodWord = true := by decide +kernel
set_option maxRecDepth 20000 in
theorem gw_X5_add : wsX5_add.all goodWord = true := by decide +kernel
set_option maxRecDepth 20000 in
theorem gw_X5_clear : wsX5_clear.all goodWord = true := by decide +kernel
set_option maxRecDepth 20000 in
theorem gw_X5_copyFrom : wsX5_copyFrom.all goodWord = true := by decide +kernel
set_option maxRecDepth 20000 in
theorem gw_X5_fitting : wsX5_fitting.all goodWord = true := by decide +kernel
set_option maxRecDepth 20000 in
theorem gw_X5_init : wsX5_init.all goodWord = true := by decide +kernel
set_option maxRecDepth 20000 in
theorem gw_X5_lastMinute : wsX5_lastMinute.all goodWord = true := by decide +kernel
set_option maxRecDepth 20000 in
theorem gw_X6_advance : wsX6_advance.all goodWord = true := by decide +kernel
set_option maxRecDepth 20000 in
theorem gw_X6_checkNumber : wsX6_checkNumber.all goodWord = true := by decide +kernel
set_option maxRecDepth 20000 in
theorem gw_X6_clear : wsX6_clear.all goodWord = true := by decide +kernel
set_option maxRecDepth 20000 in
theorem gw_X6_init : wsX6_init.all goodWord = true := by decide +kernel
set_option maxRecDepth 20000 in
theorem gw_X6_isAtEnd : wsX6_isAtEnd.all goodWord = true := by decide +kernel
set_option maxRecDepth 20000 in
theorem gw_X6_isDigit : wsX6_isDigit.all goodWord = true := by decide +kernel
set_option maxRecDepth 20000 in
theorem gw_X6_isLetter : wsX6_isLetter.all goodWord = true := by decide +kernel
set_option maxRecDepth 20000 in
theorem gw_X6_isName : wsX6_isName.all goodWord = true := by decide +kernel
set_option maxRecDepth 20000 in
theorem gw_X6_isNumber : wsX6_isNumber.all goodWord = true := by decide +kernel
set_option maxRecDepth 20000 in
theorem gw_X6_isSign : wsX6_isSign.all goodWord = true := by decide +kernel
set_option maxRecDepth 20000 in
theorem gw_X6_isWord : wsX6_isWord.all goodWord = true := by decide +kernel
set_option maxRecDepth 20000 in
theorem gw_X6_put : wsX6_put.all goodWord = true := by decide +kernel
set_option maxRecDepth 20000 in
theorem gw_X6_readNumber : wsX6_readNumber.all goodWord = true := by decide +kernel
set_option maxRecDepth 20000 in
theorem gw_X6_readWord : wsX6_readWord.all goodWord = true := by decide +kernel
set_option maxRecDepth 20000 in
theorem gw_X6_rewind : wsX6_rewind.all goodWord = true := by decide +kernel
set_option maxRecDepth 20000 in
theorem gw_X6_takeNumber : wsX6_takeNumber.all goodWord = true := by decide +kernel
set_option maxRecDepth 20000 in
theorem gw_X6_takeSign : wsX6_takeSign.all goodWord = true := by decide +kernel
set_option maxRecDepth 20000 in
theorem gw_X6_takeWord : wsX6_takeWord.all goodWord = true := by decide +kernel
set_option maxRecDepth 20000 in
theorem gw_X6_withLetter : wsX6_withLetter.all goodWord = true := by decide +kernel
set_option maxRecDepth 20000 in
theorem gw_X6_wordHere : wsX6_wordHere.all goodWord = true := by decide +kernel
set_option maxRecDepth 20000 in
theorem gw_X6_wrong : wsX6_wrong.all goodWord = true := by decide +kernel
set_option maxRecDepth 20000 in
theorem gw_X7_clear : wsX7_clear.all goodWord = true := by decide +kernel
set_option maxRecDepth 20000 in
theorem gw_X7_init : wsX7_init.all goodWord = true := by decide +kernel
set_option maxRecDepth 20000 in
theorem gw_X7_numberOf : wsX7_numberOf.all goodWord = true := by decide +kernel
set_option maxRecDepth 20000 in
theorem gw_X7_read : wsX7_read.all goodWord = true := by decide +kernel
set_option maxRecDepth 20000 in
theorem gw_X7_readBend : wsX7_readBend.all goodWord = true := by decide +kernel
set_option maxRecDepth 20000 in
theorem gw_X7_readGuest : wsX7_readGuest.all goodWord = true := by decide +kernel
set_option maxRecDepth 20000 in
theorem gw_X7_readHour : wsX7_readHour.all goodWord = true := by decide +kernel
set_option maxRecDepth 20000 in
theorem gw_X7_readMeasure : wsX7_readMeasure.all goodWord = true := by decide +kernel
set_option maxRecDepth 20000 in
theorem gw_X7_readSnow : wsX7_readSnow.all goodWord = true := by decide +kernel
set_option maxRecDepth 20000 in
theorem gw_X7_snowAt : wsX7_snowAt.all goodWord = true := by decide +kernel
set_option maxRecDepth 20000 in
theorem gw_X8_beginAnew : wsX8_beginAnew.all goodWord = true := by decide +kernel
set_option maxRecDepth 20000 in
theorem gw_X8_draw : wsX8_draw.all goodWord = true := by decide +kernel
set_option maxRecDepth 20000 in
theorem gw_X8_drawDeed : wsX8_drawDeed.all goodWord = true := by decide +kernel
set_option maxRecDepth 20000 in
theorem gw_X8_gain : wsX8_gain.all goodWord = true := by decide +kernel
set_option maxRecDepth 20000 in
theorem gw_X8_isGuest : wsX8_isGuest.all goodWord = true := by decide +kernel
set_option maxRecDepth 20000 in
theorem gw_X8_isGuestOnRoad : wsX8_isGuestOnRoad.all goodWord = true := by decide +kernel
set_option maxRecDepth 20000 in
theorem gw_X8_isInBySnows : wsX8_isInBySnows.all goodWord = true := by decide +kernel
set_option maxRecDepth 20000 in
theorem gw_X8_isWithin : wsX8_isWithin.all goodWord = true := by decide +kernel
set_option maxRecDepth 20000 in
theorem gw_X8_lookAhead : wsX8_lookAhead.all goodWord = true := by decide +kernel
set_option maxRecDepth 20000 in
theorem gw_X8_nextCook : wsX8_nextCook.all goodWord = true := by decide +kernel
set_option maxRecDepth 20000 in
theorem gw_X8_nextTaste : wsX8_nextTaste.all goodWord = true := by decide +kernel
set_option maxRecDepth 20000 in
theorem gw_X8_power : wsX8_power.all goodWord = true := by decide +kernel
set_option maxRecDepth 20000 in
theorem gw_X8_suspects : wsX8_suspects.all goodWord = true := by decide +kernel
set_option maxRecDepth 20000 in
theorem gw_X9_begins : wsX9_begins.all goodWord = true := by decide +kernel
set_option maxRecDepth 20000 in
theorem gw_X9_between : wsX9_between.all goodWord = true := by decide +kernel
set_option maxRecDepth 20000 in
theorem gw_X9_bits : wsX9_bits.all goodWord = true := by decide +kernel
set_option maxRecDepth 20000 in
theorem gw_X9_canHire : wsX9_canHire.all goodWord = true := by decide +kernel
set_option maxRecDepth 20000 in
theorem gw_X9_closes : wsX9_closes.all goodWord = true := by decide +kernel
set_option maxRecDepth 20000 in
theorem gw_X9_cookNow : wsX9_cookNow.all goodWord = true := by decide +kernel
set_option maxRecDepth 20000 in
theorem gw_X9_copies : wsX9_copies.all goodWord = true := by decide +kernel
set_option maxRecDepth 20000 in
theorem gw_X9_draws : wsX9_draws.all goodWord = true := by decide +kernel
set_option maxRecDepth 20000 in
theorem gw_X9_eats : wsX9_eats.all goodWord = true := by decide +kernel
set_option maxRecDepth 20000 in
theorem gw_X9_fact : wsX9_fact.all goodWord = true := by decide +kernel
set_option maxRecDepth 20000 in
theorem gw_X9_fails : wsX9_fails.all goodWord = true := by decide +kernel
set_option maxRecDepth 20000 in
theorem gw_X9_fresh0 : wsX9_fresh0.all goodWord = true := by decide +kernel
set_option maxRecDepth 20000 in
theorem gw_X9_getsBy : wsX9_getsBy.all goodWord = true := by decide +kernel
set_option maxRecDepth 20000 in
theorem gw_X9_goes : wsX9_goes.all goodWord = true := by decide +kernel
set_option maxRecDepth 20000 in
theorem gw_X9_greats : wsX9_greats.all goodWord = true := by decide +kernel
set_option maxRecDepth 20000 in
theorem gw_X9_guestNamed : wsX9_guestNamed.all goodWord = true := by decide +kernel
set_option maxRecDepth 20000 in
theorem gw_X9_holds : wsX9_holds.all goodWord = true := by decide +kernel
set_option maxRecDepth 20000 in
theorem gw_X9_isAsSeen : wsX9_isAsSeen.all goodWord = true := by decide +kernel
set_option maxRecDepth 20000 in
theorem gw_X9_isDone : wsX9_isDone.all goodWord = true := by decide +kernel
set_option maxRecDepth 20000 in
theorem gw_X9_isEatenBy : wsX9_isEatenBy.all goodWord = true := by decide +kernel
set_option maxRecDepth 20000 in
theorem gw_X9_isGuest : wsX9_isGuest.all goodWord = true := by decide +kernel
set_option maxRecDepth 20000 in
theorem gw_X9_isIn : wsX9_isIn.all goodWord = true := by decide +kernel
set_option maxRecDepth 20000 in
theorem gw_X9_isKept : wsX9_isKept.all goodWord = true := by decide +kernel
set_option maxRecDepth 20000 in
theorem gw_X9_isOnRoad : wsX9_isOnRoad.all goodWord = true := by decide +kernel
set_option maxRecDepth 20000 in
theorem gw_X9_isSign : wsX9_isSign.all goodWord = true := by decide +kernel
set_option maxRecDepth 20000 in
theorem gw_X9_isWord : wsX9_isWord.all goodWord = true := by decide +kernel
set_option maxRecDepth 20000 in
theorem gw_X9_keeps : wsX9_keeps.all goodWord = true := by decide +kernel
set_option maxRecDepth 20000 in
theorem gw_X9_lays : wsX9_lays.all goodWord = true := by decide +kernel
set_option maxRecDepth 20000 in
theorem gw_X9_laysLines : wsX9_laysLines.all goodWord = true := by decide +kernel
set_option maxRecDepth 20000 in
theorem gw_X9_laysPlaces : wsX9_laysPlaces.all goodWord = true := by decide +kernel
set_option maxRecDepth 20000 in
theorem gw_X9_laysSeen : wsX9_laysSeen.all goodWord = true := by decide +kernel
set_option maxRecDepth 20000 in
theorem gw_X9_laysYards : wsX9_laysYards.all goodWord = true := by decide +kernel
set_option maxRecDepth 20000 in
theorem gw_X9_livesMinute : wsX9_livesMinute.all goodWord = true := by decide +kernel
set_option maxRecDepth 20000 in
theorem gw_X9_needsBoth : wsX9_needsBoth.all goodWord = true := by decide +kernel
set_option maxRecDepth 20000 in
theorem gw_X9_needsGuest : wsX9_needsGuest.all goodWord = true := by decide +kernel
set_option maxRecDepth 20000 in
theorem gw_X9_needsNumber : wsX9_needsNumber.all goodWord = true := by decide +kernel
set_option maxRecDepth 20000 in
theorem gw_X9_nextToken : wsX9_nextToken.all goodWord = true := by decide +kernel
set_option maxRecDepth 20000 in
theorem gw_X9_onRoad : wsX9_onRoad.all goodWord = true := by decide +kernel
set_option maxRecDepth 20000 in
theorem gw_X9_opens : wsX9_opens.all goodWord = true := by decide +kernel
set_option maxRecDepth 20000 in
theorem gw_X9_paceOf : wsX9_paceOf.all goodWord = true := by decide +kernel
set_option maxRecDepth 20000 in
theorem gw_X9_passes : wsX9_passes.all goodWord = true := by decide +kernel
set_option maxRecDepth 20000 in
theorem gw_X9_puts : wsX9_puts.all goodWord = true := by decide +kernel
set_option maxRecDepth 20000 in
theorem gw_X9_reads : wsX9_reads.all goodWord = true := by decide +kernel
set_option maxRecDepth 20000 in
theorem gw_X9_readsAll : wsX9_readsAll.all goodWord = true := by decide +kernel
set_option maxRecDepth 20000 in
theorem gw_X9_readsGuest : wsX9_readsGuest.all goodWord = true := by decide +kernel
set_option maxRecDepth 20000 in
theorem gw_X9_readsLine : wsX9_readsLine.all goodWord = true := by decide +kernel
set_option maxRecDepth 20000 in
theorem gw_X9_readsOne : wsX9_readsOne.all goodWord = true := by decide +kernel
set_option maxRecDepth 20000 in
theorem gw_X9_readsSnow : wsX9_readsSnow.all goodWord = true := by decide +kernel
set_option maxRecDepth 20000 in
theorem gw_X9_readsTastes : wsX9_readsTastes.all goodWord = true := by decide +kernel
set_option maxRecDepth 20000 in
theorem gw_X9_runs : wsX9_runs.all goodWord = true := by decide +kernel
set_option maxRecDepth 20000 in
theorem gw_X9_sets : wsX9_sets.all goodWord = true := by decide +kernel
set_option maxRecDepth 20000 in
theorem gw_X9_shifts : wsX9_shifts.all goodWord = true := by decide +kernel
set_option maxRecDepth 20000 in
theorem gw_X9_signAt : wsX9_signAt.all goodWord = true := by decide +kernel
set_option maxRecDepth 20000 in
theorem gw_X9_snowOf : wsX9_snowOf.all goodWord = true := by decide +kernel
set_option maxRecDepth 20000 in
theorem gw_X9_sums : wsX9_sums.all goodWord = true := by decide +kernel
set_option maxRecDepth 20000 in
theorem gw_X9_tests : wsX9_tests.all goodWord = true := by decide +kernel
set_option maxRecDepth 20000 in
theorem gw_X9_usual : wsX9_usual.all goodWord = true := by decide +kernel
set_option maxRecDepth 20000 in
theorem gw_X9_wheels : wsX9_wheels.all goodWord = true := by decide +kernel
set_option maxRecDepth 20000 in
theorem gw_X9_who : wsX9_who.all goodWord = true := by decide +kernel
set_option maxRecDepth 20000 in
theorem gw_X9_within : wsX9_within.all goodWord = true := by decide +kernel
set_option maxRecDepth 20000 in
theorem gw_X9_worked : wsX9_worked.all goodWord = true := by decide +kernel
