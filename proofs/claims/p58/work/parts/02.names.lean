def RX0 : String := "InventedBirthdays$History"
def TX0 : u_T := fun k => match k with
  | 0 => ("InventedBirthdays$History", "states", "[LInventedBirthdays$Registry;", true)
  | 1 => ("InventedBirthdays$History", "next", "I", false)
  | _ => ("InventedBirthdays$History", "count", "I", false)
def tyX0 : Nat → FieldType := fun k => match k with
  | 0 => .array (.object "InventedBirthdays$Registry")
  | 1 => .int
  | _ => .int
theorem nmX0 : ∀ a, a < 3 → ∀ b, b < 3 → a ≠ b → (TX0 a).2.1 ≠ (TX0 b).2.1 := by decide +kernel
theorem tyX0_ok : ∀ k, k < 3 → parseFieldDescriptor (TX0 k).2.2.1 = some (tyX0 k) := by decide +kernel
abbrev cX0_init : ByteArray := prog_2_method_1_code
def yX0_init : MethodName := ⟨RX0, "<init>", "()V"⟩
abbrev cX0_forgetAll : ByteArray := prog_2_method_2_code
def yX0_forgetAll : MethodName := ⟨RX0, "forgetAll", "()V"⟩
abbrev cX0_record : ByteArray := prog_2_method_3_code
def yX0_record : MethodName := ⟨RX0, "record", "(LInventedBirthdays$Registry;)V"⟩
abbrev cX0_takeBack : ByteArray := prog_2_method_4_code
def yX0_takeBack : MethodName := ⟨RX0, "takeBack", "(LInventedBirthdays$Registry;)V"⟩
abbrev cX0_stateAt : ByteArray := prog_2_method_5_code
def yX0_stateAt : MethodName := ⟨RX0, "stateAt", "(I)LInventedBirthdays$Registry;"⟩
def RX1 : String := "InventedBirthdays$Parser"
def TX1 : u_T := fun k => match k with
  | 0 => ("InventedBirthdays$Parser", "result", "LInventedBirthdays$Registry;", true)
  | 1 => ("InventedBirthdays$Parser", "bufferLength", "I", false)
  | 2 => ("InventedBirthdays$Parser", "faultKind", "I", false)
  | 3 => ("InventedBirthdays$Parser", "faultOffset", "I", false)
  | 4 => ("InventedBirthdays$Parser", "buffer", "[B", true)
  | 5 => ("InventedBirthdays$Parser", "length", "I", false)
  | 6 => ("InventedBirthdays$Parser", "token", "I", false)
  | 7 => ("InventedBirthdays$Parser", "tokenStart", "I", false)
  | _ => ("InventedBirthdays$Parser", "tokenEnd", "I", false)
def tyX1 : Nat → FieldType := fun k => match k with
  | 0 => .object "InventedBirthdays$Registry"
  | 1 => .int
  | 2 => .int
  | 3 => .int
  | 4 => .array .byte
  | 5 => .int
  | 6 => .int
  | 7 => .int
  | _ => .int
theorem nmX1 : ∀ a, a < 9 → ∀ b, b < 9 → a ≠ b → (TX1 a).2.1 ≠ (TX1 b).2.1 := by decide +kernel
theorem tyX1_ok : ∀ k, k < 9 → parseFieldDescriptor (TX1 k).2.2.1 = some (tyX1 k) := by decide +kernel
abbrev cX1_init : ByteArray := prog_3_method_1_code
def yX1_init : MethodName := ⟨RX1, "<init>", "()V"⟩
abbrev cX1_addByte : ByteArray := prog_3_method_2_code
def yX1_addByte : MethodName := ⟨RX1, "addByte", "(I)V"⟩
abbrev cX1_emptyBuffer : ByteArray := prog_3_method_3_code
def yX1_emptyBuffer : MethodName := ⟨RX1, "emptyBuffer", "()V"⟩
abbrev cX1_parse : ByteArray := prog_3_method_4_code
def yX1_parse : MethodName := ⟨RX1, "parse", "(I)V"⟩
abbrev cX1_readHead : ByteArray := prog_3_method_5_code
def yX1_readHead : MethodName := ⟨RX1, "readHead", "()V"⟩
abbrev cX1_nextIsLine : ByteArray := prog_3_method_6_code
def yX1_nextIsLine : MethodName := ⟨RX1, "nextIsLine", "()Z"⟩
abbrev cX1_readGarden : ByteArray := prog_3_method_7_code
def yX1_readGarden : MethodName := ⟨RX1, "readGarden", "()V"⟩
abbrev cX1_readChild : ByteArray := prog_3_method_8_code
def yX1_readChild : MethodName := ⟨RX1, "readChild", "()V"⟩
abbrev cX1_readBirthday : ByteArray := prog_3_method_9_code
def yX1_readBirthday : MethodName := ⟨RX1, "readBirthday", "()V"⟩
abbrev cX1_readDraw : ByteArray := prog_3_method_10_code
def yX1_readDraw : MethodName := ⟨RX1, "readDraw", "()V"⟩
abbrev cX1_readCakes : ByteArray := prog_3_method_11_code
def yX1_readCakes : MethodName := ⟨RX1, "readCakes", "()V"⟩
abbrev cX1_readDays : ByteArray := prog_3_method_12_code
def yX1_readDays : MethodName := ⟨RX1, "readDays", "()V"⟩
abbrev cX1_readKnownChild : ByteArray := prog_3_method_13_code
def yX1_readKnownChild : MethodName := ⟨RX1, "readKnownChild", "()I"⟩
abbrev cX1_readName : ByteArray := prog_3_method_14_code
def yX1_readName : MethodName := ⟨RX1, "readName", "()I"⟩
abbrev cX1_readNumber : ByteArray := prog_3_method_15_code
def yX1_readNumber : MethodName := ⟨RX1, "readNumber", "(II)I"⟩
abbrev cX1_fail : ByteArray := prog_3_method_16_code
def yX1_fail : MethodName := ⟨RX1, "fail", "(I)V"⟩
abbrev cX1_readToken : ByteArray := prog_3_method_17_code
def yX1_readToken : MethodName := ⟨RX1, "readToken", "()V"⟩
abbrev cX1_isRun : ByteArray := prog_3_method_18_code
def yX1_isRun : MethodName := ⟨RX1, "isRun", "(I)Z"⟩
abbrev cX1_classAt : ByteArray := prog_3_method_19_code
def yX1_classAt : MethodName := ⟨RX1, "classAt", "(I)I"⟩
abbrev cX1_tokenIs : ByteArray := prog_3_method_20_code
def yX1_tokenIs : MethodName := ⟨RX1, "tokenIs", "(Ljava/lang/String;)Z"⟩
abbrev cX1_byteAt : ByteArray := prog_3_method_21_code
def yX1_byteAt : MethodName := ⟨RX1, "byteAt", "(I)I"⟩
def RX2 : String := "InventedBirthdays$Registry"
def TX2 : u_T := fun k => match k with
  | 0 => ("InventedBirthdays$Registry", "year", "I", false)
  | 1 => ("InventedBirthdays$Registry", "date", "I", false)
  | 2 => ("InventedBirthdays$Registry", "seed", "I", false)
  | 3 => ("InventedBirthdays$Registry", "candles", "I", false)
  | 4 => ("InventedBirthdays$Registry", "firstCandles", "I", false)
  | 5 => ("InventedBirthdays$Registry", "boughtCandles", "I", false)
  | 6 => ("InventedBirthdays$Registry", "litCandles", "I", false)
  | 7 => ("InventedBirthdays$Registry", "failedParties", "I", false)
  | 8 => ("InventedBirthdays$Registry", "gardens", "I", false)
  | 9 => ("InventedBirthdays$Registry", "children", "I", false)
  | 10 => ("InventedBirthdays$Registry", "cakeStock", "[I", true)
  | 11 => ("InventedBirthdays$Registry", "seats", "[I", true)
  | 12 => ("InventedBirthdays$Registry", "names", "[I", true)
  | 13 => ("InventedBirthdays$Registry", "favourites", "[I", true)
  | 14 => ("InventedBirthdays$Registry", "breaths", "[I", true)
  | 15 => ("InventedBirthdays$Registry", "ages", "[I", true)
  | 16 => ("InventedBirthdays$Registry", "homes", "[I", true)
  | 17 => ("InventedBirthdays$Registry", "birthdays", "[I", true)
  | 18 => ("InventedBirthdays$Registry", "parties", "[I", true)
  | _ => ("InventedBirthdays$Registry", "wishes", "[I", true)
def tyX2 : Nat → FieldType := fun k => match k with
  | 0 => .int
  | 1 => .int
  | 2 => .int
  | 3 => .int
  | 4 => .int
  | 5 => .int
  | 6 => .int
  | 7 => .int
  | 8 => .int
  | 9 => .int
  | 10 => .array .int
  | 11 => .array .int
  | 12 => .array .int
  | 13 => .array .int
  | 14 => .array .int
  | 15 => .array .int
  | 16 => .array .int
  | 17 => .array .int
  | 18 => .array .int
  | _ => .array .int
theorem nmX2 : ∀ a, a < 20 → ∀ b, b < 20 → a ≠ b → (TX2 a).2.1 ≠ (TX2 b).2.1 := by decide +kernel
theorem tyX2_ok : ∀ k, k < 20 → parseFieldDescriptor (TX2 k).2.2.1 = some (tyX2 k) := by decide +kernel
abbrev cX2_init : ByteArray := prog_4_method_1_code
def yX2_init : MethodName := ⟨RX2, "<init>", "()V"⟩
abbrev cX2_begin : ByteArray := prog_4_method_2_code
def yX2_begin : MethodName := ⟨RX2, "begin", "(II)V"⟩
abbrev cX2_copyFrom : ByteArray := prog_4_method_3_code
def yX2_copyFrom : MethodName := ⟨RX2, "copyFrom", "(LInventedBirthdays$Registry;)V"⟩
abbrev cX2_addGarden : ByteArray := prog_4_method_4_code
def yX2_addGarden : MethodName := ⟨RX2, "addGarden", "(I)V"⟩
abbrev cX2_addChild : ByteArray := prog_4_method_5_code
def yX2_addChild : MethodName := ⟨RX2, "addChild", "(IIIII)V"⟩
abbrev cX2_childNamed : ByteArray := prog_4_method_6_code
def yX2_childNamed : MethodName := ⟨RX2, "childNamed", "(I)I"⟩
abbrev cX2_countFans : ByteArray := prog_4_method_7_code
def yX2_countFans : MethodName := ⟨RX2, "countFans", "(I)I"⟩
abbrev cX2_daysUntil : ByteArray := prog_4_method_8_code
def yX2_daysUntil : MethodName := ⟨RX2, "daysUntil", "(I)I"⟩
abbrev cX2_daysLeft : ByteArray := prog_4_method_9_code
def yX2_daysLeft : MethodName := ⟨RX2, "daysLeft", "()I"⟩
abbrev cX2_reasonAgainst : ByteArray := prog_4_method_10_code
def yX2_reasonAgainst : MethodName := ⟨RX2, "reasonAgainst", "(III)I"⟩
abbrev cX2_countDraws : ByteArray := prog_4_method_11_code
def yX2_countDraws : MethodName := ⟨RX2, "countDraws", "(I)I"⟩
abbrev cX2_drawBirthday : ByteArray := prog_4_method_12_code
def yX2_drawBirthday : MethodName := ⟨RX2, "drawBirthday", "(II)V"⟩
abbrev cX2_pass : ByteArray := prog_4_method_13_code
def yX2_pass : MethodName := ⟨RX2, "pass", "(I)I"⟩
abbrev cX2_beginNextDate : ByteArray := prog_4_method_14_code
def yX2_beginNextDate : MethodName := ⟨RX2, "beginNextDate", "()V"⟩
abbrev cX2_celebrate : ByteArray := prog_4_method_15_code
def yX2_celebrate : MethodName := ⟨RX2, "celebrate", "(I)Z"⟩
abbrev cX2_cakeFor : ByteArray := prog_4_method_16_code
def yX2_cakeFor : MethodName := ⟨RX2, "cakeFor", "(I)I"⟩
abbrev cX2_partyStrength : ByteArray := prog_4_method_17_code
def yX2_partyStrength : MethodName := ⟨RX2, "partyStrength", "(II)I"⟩
def RX3 : String := "InventedBirthdays"
def TX3 : u_T := fun k => match k with
  | 0 => ("InventedBirthdays", "output", "[B", true)
  | 1 => ("InventedBirthdays", "outputLength", "I", false)
  | 2 => ("InventedBirthdays", "reportedKind", "I", false)
  | 3 => ("InventedBirthdays", "reportedOffset", "I", false)
  | 4 => ("InventedBirthdays", "now", "LInventedBirthdays$Registry;", true)
  | 5 => ("InventedBirthdays", "forecast", "LInventedBirthdays$Registry;", true)
  | 6 => ("InventedBirthdays", "parser", "LInventedBirthdays$Parser;", true)
  | 7 => ("InventedBirthdays", "history", "LInventedBirthdays$History;", true)
  | 8 => ("InventedBirthdays", "saved", "[LInventedBirthdays$Registry;", true)
  | _ => ("InventedBirthdays", "isSaved", "[Z", true)
def tyX3 : Nat → FieldType := fun k => match k with
  | 0 => .array .byte
  | 1 => .int
  | 2 => .int
  | 3 => .int
  | 4 => .object "InventedBirthdays$Registry"
  | 5 => .object "InventedBirthdays$Registry"
  | 6 => .object "InventedBirthdays$Parser"
  | 7 => .object "InventedBirthdays$History"
  | 8 => .array (.object "InventedBirthdays$Registry")
  | _ => .array .boolean
theorem nmX3 : ∀ a, a < 10 → ∀ b, b < 10 → a ≠ b → (TX3 a).2.1 ≠ (TX3 b).2.1 := by decide +kernel
theorem tyX3_ok : ∀ k, k < 10 → parseFieldDescriptor (TX3 k).2.2.1 = some (tyX3 k) := by decide +kernel
abbrev cX3_init : ByteArray := prog_1_method_1_code
def yX3_init : MethodName := ⟨RX3, "<init>", "()V"⟩
abbrev cX3_append : ByteArray := prog_1_method_2_code
def yX3_append : MethodName := ⟨RX3, "append", "(IIIII)I"⟩
abbrev cX3_appendFour : ByteArray := prog_1_method_3_code
def yX3_appendFour : MethodName := ⟨RX3, "appendFour", "(I)V"⟩
abbrev cX3_load : ByteArray := prog_1_method_4_code
def yX3_load : MethodName := ⟨RX3, "load", "(I)I"⟩
abbrev cX3_year : ByteArray := prog_1_method_7_code
def yX3_year : MethodName := ⟨RX3, "year", "()I"⟩
abbrev cX3_month : ByteArray := prog_1_method_8_code
def yX3_month : MethodName := ⟨RX3, "month", "()I"⟩
abbrev cX3_dayOfMonth : ByteArray := prog_1_method_9_code
def yX3_dayOfMonth : MethodName := ⟨RX3, "dayOfMonth", "()I"⟩
abbrev cX3_seed : ByteArray := prog_1_method_10_code
def yX3_seed : MethodName := ⟨RX3, "seed", "()I"⟩
abbrev cX3_nextDraw : ByteArray := prog_1_method_11_code
def yX3_nextDraw : MethodName := ⟨RX3, "nextDraw", "()I"⟩
abbrev cX3_candles : ByteArray := prog_1_method_12_code
def yX3_candles : MethodName := ⟨RX3, "candles", "()I"⟩
abbrev cX3_cakes : ByteArray := prog_1_method_13_code
def yX3_cakes : MethodName := ⟨RX3, "cakes", "(I)I"⟩
abbrev cX3_mostWantedCake : ByteArray := prog_1_method_14_code
def yX3_mostWantedCake : MethodName := ⟨RX3, "mostWantedCake", "()I"⟩
abbrev cX3_gardenCount : ByteArray := prog_1_method_15_code
def yX3_gardenCount : MethodName := ⟨RX3, "gardenCount", "()I"⟩
abbrev cX3_seatsOf : ByteArray := prog_1_method_16_code
def yX3_seatsOf : MethodName := ⟨RX3, "seatsOf", "(I)I"⟩
abbrev cX3_partyIn : ByteArray := prog_1_method_18_code
def yX3_partyIn : MethodName := ⟨RX3, "partyIn", "(III)I"⟩
abbrev cX3_childCount : ByteArray := prog_1_method_19_code
def yX3_childCount : MethodName := ⟨RX3, "childCount", "()I"⟩
abbrev cX3_cakeOf : ByteArray := prog_1_method_20_code
def yX3_cakeOf : MethodName := ⟨RX3, "cakeOf", "(I)I"⟩
abbrev cX3_breathOf : ByteArray := prog_1_method_21_code
def yX3_breathOf : MethodName := ⟨RX3, "breathOf", "(I)I"⟩
abbrev cX3_ageOf : ByteArray := prog_1_method_22_code
def yX3_ageOf : MethodName := ⟨RX3, "ageOf", "(I)I"⟩
abbrev cX3_gardenOf : ByteArray := prog_1_method_23_code
def yX3_gardenOf : MethodName := ⟨RX3, "gardenOf", "(I)I"⟩
abbrev cX3_birthdayOf : ByteArray := prog_1_method_24_code
def yX3_birthdayOf : MethodName := ⟨RX3, "birthdayOf", "(I)I"⟩
abbrev cX3_daysUntilBirthday : ByteArray := prog_1_method_25_code
def yX3_daysUntilBirthday : MethodName := ⟨RX3, "daysUntilBirthday", "(I)I"⟩
abbrev cX3_partiesOf : ByteArray := prog_1_method_26_code
def yX3_partiesOf : MethodName := ⟨RX3, "partiesOf", "(I)I"⟩
abbrev cX3_wishesOf : ByteArray := prog_1_method_27_code
def yX3_wishesOf : MethodName := ⟨RX3, "wishesOf", "(I)I"⟩
abbrev cX3_strengthOf : ByteArray := prog_1_method_28_code
def yX3_strengthOf : MethodName := ⟨RX3, "strengthOf", "(I)I"⟩
abbrev cX3_nextChild : ByteArray := prog_1_method_29_code
def yX3_nextChild : MethodName := ⟨RX3, "nextChild", "()I"⟩
abbrev cX3_childrenOn : ByteArray := prog_1_method_30_code
def yX3_childrenOn : MethodName := ⟨RX3, "childrenOn", "(II)I"⟩
abbrev cX3_differentDates : ByteArray := prog_1_method_31_code
def yX3_differentDates : MethodName := ⟨RX3, "differentDates", "()I"⟩
abbrev cX3_dateAt : ByteArray := prog_1_method_32_code
def yX3_dateAt : MethodName := ⟨RX3, "dateAt", "(I)I"⟩
abbrev cX3_isFirstWithItsDate : ByteArray := prog_1_method_33_code
def yX3_isFirstWithItsDate : MethodName := ⟨RX3, "isFirstWithItsDate", "(I)Z"⟩
abbrev cX3_busiestMonth : ByteArray := prog_1_method_34_code
def yX3_busiestMonth : MethodName := ⟨RX3, "busiestMonth", "()I"⟩
abbrev cX3_countBirthdaysIn : ByteArray := prog_1_method_35_code
def yX3_countBirthdaysIn : MethodName := ⟨RX3, "countBirthdaysIn", "(I)I"⟩
abbrev cX3_obstacle : ByteArray := prog_1_method_36_code
def yX3_obstacle : MethodName := ⟨RX3, "obstacle", "(IIII)I"⟩
abbrev cX3_drawsNeeded : ByteArray := prog_1_method_38_code
def yX3_drawsNeeded : MethodName := ⟨RX3, "drawsNeeded", "(I)I"⟩
abbrev cX3_candlesAfter : ByteArray := prog_1_method_39_code
def yX3_candlesAfter : MethodName := ⟨RX3, "candlesAfter", "(I)I"⟩
abbrev cX3_wishesAfter : ByteArray := prog_1_method_40_code
def yX3_wishesAfter : MethodName := ⟨RX3, "wishesAfter", "(II)I"⟩
abbrev cX3_forecastDays : ByteArray := prog_1_method_41_code
def yX3_forecastDays : MethodName := ⟨RX3, "forecastDays", "(I)V"⟩
abbrev cX3_heldParties : ByteArray := prog_1_method_42_code
def yX3_heldParties : MethodName := ⟨RX3, "heldParties", "()I"⟩
abbrev cX3_failedParties : ByteArray := prog_1_method_43_code
def yX3_failedParties : MethodName := ⟨RX3, "failedParties", "()I"⟩
abbrev cX3_clashes : ByteArray := prog_1_method_44_code
def yX3_clashes : MethodName := ⟨RX3, "clashes", "()I"⟩
abbrev cX3_clash : ByteArray := prog_1_method_45_code
def yX3_clash : MethodName := ⟨RX3, "clash", "(II)Z"⟩
abbrev cX3_candleDifference : ByteArray := prog_1_method_46_code
def yX3_candleDifference : MethodName := ⟨RX3, "candleDifference", "()I"⟩
abbrev cX3_meanAge : ByteArray := prog_1_method_47_code
def yX3_meanAge : MethodName := ⟨RX3, "meanAge", "()D"⟩
abbrev cX3_wishShare : ByteArray := prog_1_method_48_code
def yX3_wishShare : MethodName := ⟨RX3, "wishShare", "()F"⟩
abbrev cX3_advance : ByteArray := prog_1_method_49_code
def yX3_advance : MethodName := ⟨RX3, "advance", "(I)I"⟩
abbrev cX3_draw : ByteArray := prog_1_method_50_code
def yX3_draw : MethodName := ⟨RX3, "draw", "(I)I"⟩
abbrev cX3_setBirthday : ByteArray := prog_1_method_51_code
def yX3_setBirthday : MethodName := ⟨RX3, "setBirthday", "(III)I"⟩
abbrev cX3_forgetBirthday : ByteArray := prog_1_method_52_code
def yX3_forgetBirthday : MethodName := ⟨RX3, "forgetBirthday", "(I)I"⟩
abbrev cX3_moveTo : ByteArray := prog_1_method_53_code
def yX3_moveTo : MethodName := ⟨RX3, "moveTo", "(II)I"⟩
abbrev cX3_buyCandles : ByteArray := prog_1_method_54_code
def yX3_buyCandles : MethodName := ⟨RX3, "buyCandles", "(I)I"⟩
abbrev cX3_bakeCakes : ByteArray := prog_1_method_55_code
def yX3_bakeCakes : MethodName := ⟨RX3, "bakeCakes", "(II)I"⟩
abbrev cX3_restore : ByteArray := prog_1_method_56_code
def yX3_restore : MethodName := ⟨RX3, "restore", "(I)I"⟩
abbrev cX3_stateIn : ByteArray := prog_1_method_57_code
def yX3_stateIn : MethodName := ⟨RX3, "stateIn", "(I)LInventedBirthdays$Registry;"⟩
abbrev cX3_isFilled : ByteArray := prog_1_method_58_code
def yX3_isFilled : MethodName := ⟨RX3, "isFilled", "(I)Z"⟩
abbrev cX3_undo : ByteArray := prog_1_method_59_code
def yX3_undo : MethodName := ⟨RX3, "undo", "()I"⟩
abbrev cX3_save : ByteArray := prog_1_method_60_code
def yX3_save : MethodName := ⟨RX3, "save", "(I)I"⟩
abbrev cX3_needChild : ByteArray := prog_1_method_67_code
def yX3_needChild : MethodName := ⟨RX3, "needChild", "(I)V"⟩
abbrev cX3_needGarden : ByteArray := prog_1_method_68_code
def yX3_needGarden : MethodName := ⟨RX3, "needGarden", "(I)V"⟩
abbrev cX3_needSlot : ByteArray := prog_1_method_69_code
def yX3_needSlot : MethodName := ⟨RX3, "needSlot", "(I)V"⟩
abbrev cX3_needDate : ByteArray := prog_1_method_70_code
def yX3_needDate : MethodName := ⟨RX3, "needDate", "(II)V"⟩
abbrev cX3_needKind : ByteArray := prog_1_method_71_code
def yX3_needKind : MethodName := ⟨RX3, "needKind", "(I)V"⟩
abbrev cX3_needForecastDays : ByteArray := prog_1_method_72_code
def yX3_needForecastDays : MethodName := ⟨RX3, "needForecastDays", "(I)V"⟩
abbrev cX3_dateOf : ByteArray := prog_1_method_73_code
def yX3_dateOf : MethodName := ⟨RX3, "dateOf", "(II)I"⟩
abbrev cX3_monthAt : ByteArray := prog_1_method_74_code
def yX3_monthAt : MethodName := ⟨RX3, "monthAt", "(I)I"⟩
abbrev cX3_dayAt : ByteArray := prog_1_method_75_code
def yX3_dayAt : MethodName := ⟨RX3, "dayAt", "(I)I"⟩
abbrev cX3_seedAfter : ByteArray := prog_1_method_76_code
def yX3_seedAfter : MethodName := ⟨RX3, "seedAfter", "(I)I"⟩
abbrev cX3_cell : ByteArray := prog_1_method_77_code
def yX3_cell : MethodName := ⟨RX3, "cell", "([II)I"⟩
abbrev cX3_setCell : ByteArray := prog_1_method_78_code
def yX3_setCell : MethodName := ⟨RX3, "setCell", "([III)V"⟩
abbrev cX3_addToCell : ByteArray := prog_1_method_79_code
def yX3_addToCell : MethodName := ⟨RX3, "addToCell", "([III)V"⟩
abbrev cX3_copyRow : ByteArray := prog_1_method_80_code
def yX3_copyRow : MethodName := ⟨RX3, "copyRow", "([I[I)V"⟩
abbrev cX3_sum : ByteArray := prog_1_method_81_code
def yX3_sum : MethodName := ⟨RX3, "sum", "([II)I"⟩
abbrev cX3_countOf : ByteArray := prog_1_method_82_code
def yX3_countOf : MethodName := ⟨RX3, "countOf", "(I[II)I"⟩
def RX4 : String := "InventedBirthdaysModel"
def TX4 : u_T := fun k => match k with
  | _ => ("", "", "", false)
def tyX4 : Nat → FieldType := fun k => match k with
  | _ => .int
theorem nmX4 : ∀ a, a < 0 → ∀ b, b < 0 → a ≠ b → (TX4 a).2.1 ≠ (TX4 b).2.1 := by decide +kernel
theorem tyX4_ok : ∀ k, k < 0 → parseFieldDescriptor (TX4 k).2.2.1 = some (tyX4 k) := by decide +kernel
def RJx145de : String := "java/io/Serializable"
def TJx145de : u_T := fun k => match k with
  | _ => ("", "", "", false)
def tyJx145de : Nat → FieldType := fun k => match k with
  | _ => .int
theorem nmJx145de : ∀ a, a < 0 → ∀ b, b < 0 → a ≠ b → (TJx145de a).2.1 ≠ (TJx145de b).2.1 := by decide +kernel
theorem tyJx145de_ok : ∀ k, k < 0 → parseFieldDescriptor (TJx145de k).2.2.1 = some (tyJx145de k) := by decide +kernel
def RJ5 : String := "java/lang/AbstractStringBuilder"
def TJ5 : u_T := fun k => match k with
  | _ => ("", "", "", false)
def tyJ5 : Nat → FieldType := fun k => match k with
  | _ => .int
theorem nmJ5 : ∀ a, a < 0 → ∀ b, b < 0 → a ≠ b → (TJ5 a).2.1 ≠ (TJ5 b).2.1 := by decide +kernel
theorem tyJ5_ok : ∀ k, k < 0 → parseFieldDescriptor (TJ5 k).2.2.1 = some (tyJ5 k) := by decide +kernel
abbrev cJ5_init_d00df : ByteArray := prog_7_method_2_code
def yJ5_init_d00df : MethodName := ⟨RJ5, "<init>", "(I)V"⟩
abbrev cJ5_init_a7421 : ByteArray := prog_7_method_3_code
def yJ5_init_a7421 : MethodName := ⟨RJ5, "<init>", "(Ljava/lang/String;)V"⟩
abbrev cJ5_length_8abf5 : ByteArray := prog_7_method_6_code
def yJ5_length_8abf5 : MethodName := ⟨RJ5, "length", "()I"⟩
abbrev cJ5_ensureCapacityInternal_d00df : ByteArray := prog_7_method_9_code
def yJ5_ensureCapacityInternal_d00df : MethodName := ⟨RJ5, "ensureCapacityInternal", "(I)V"⟩
abbrev cJ5_newCapacity_0f7a4 : ByteArray := prog_7_method_10_code
def yJ5_newCapacity_0f7a4 : MethodName := ⟨RJ5, "newCapacity", "(I)I"⟩
abbrev cJ5_inflate_da8c8 : ByteArray := prog_7_method_11_code
def yJ5_inflate_da8c8 : MethodName := ⟨RJ5, "inflate", "()V"⟩
abbrev cJ5_append_cf1ce : ByteArray := prog_7_method_22_code
def yJ5_append_cf1ce : MethodName := ⟨RJ5, "append", "(Ljava/lang/String;)Ljava/lang/AbstractStringBuilder;"⟩
abbrev cJ5_appendNull_278bc : ByteArray := prog_7_method_26_code
def yJ5_appendNull_278bc : MethodName := ⟨RJ5, "appendNull", "()Ljava/lang/AbstractStringBuilder;"⟩
abbrev cJ5_append_3fe6f : ByteArray := prog_7_method_31_code
def yJ5_append_3fe6f : MethodName := ⟨RJ5, "append", "(C)Ljava/lang/AbstractStringBuilder;"⟩
abbrev cJ5_append_c97b9 : ByteArray := prog_7_method_32_code
def yJ5_append_c97b9 : MethodName := ⟨RJ5, "append", "(I)Ljava/lang/AbstractStringBuilder;"⟩
abbrev cJ5_getValue_6d5f1 : ByteArray := prog_7_method_64_code
def yJ5_getValue_6d5f1 : MethodName := ⟨RJ5, "getValue", "()[B"⟩
abbrev cJ5_isLatin1_aae02 : ByteArray := prog_7_method_68_code
def yJ5_isLatin1_aae02 : MethodName := ⟨RJ5, "isLatin1", "()Z"⟩
abbrev cJ5_inflateIfNeededFor_a7421 : ByteArray := prog_7_method_71_code
def yJ5_inflateIfNeededFor_a7421 : MethodName := ⟨RJ5, "inflateIfNeededFor", "(Ljava/lang/String;)V"⟩
abbrev cJ5_putStringAt_47b60 : ByteArray := prog_7_method_73_code
def yJ5_putStringAt_47b60 : MethodName := ⟨RJ5, "putStringAt", "(ILjava/lang/String;)V"⟩
def RJx2cfe8 : String := "java/lang/Appendable"
def TJx2cfe8 : u_T := fun k => match k with
  | _ => ("", "", "", false)
def tyJx2cfe8 : Nat → FieldType := fun k => match k with
  | _ => .int
theorem nmJx2cfe8 : ∀ a, a < 0 → ∀ b, b < 0 → a ≠ b → (TJx2cfe8 a).2.1 ≠ (TJx2cfe8 b).2.1 := by decide +kernel
theorem tyJx2cfe8_ok : ∀ k, k < 0 → parseFieldDescriptor (TJx2cfe8 k).2.2.1 = some (tyJx2cfe8 k) := by decide +kernel
def RJx9f9b0 : String := "java/lang/CharSequence"
def TJx9f9b0 : u_T := fun k => match k with
  | _ => ("", "", "", false)
def tyJx9f9b0 : Nat → FieldType := fun k => match k with
  | _ => .int
theorem nmJx9f9b0 : ∀ a, a < 0 → ∀ b, b < 0 → a ≠ b → (TJx9f9b0 a).2.1 ≠ (TJx9f9b0 b).2.1 := by decide +kernel
theorem tyJx9f9b0_ok : ∀ k, k < 0 → parseFieldDescriptor (TJx9f9b0 k).2.2.1 = some (tyJx9f9b0 k) := by decide +kernel
def RJx8e188 : String := "java/lang/Cloneable"
def TJx8e188 : u_T := fun k => match k with
  | _ => ("", "", "", false)
def tyJx8e188 : Nat → FieldType := fun k => match k with
  | _ => .int
theorem nmJx8e188 : ∀ a, a < 0 → ∀ b, b < 0 → a ≠ b → (TJx8e188 a).2.1 ≠ (TJx8e188 b).2.1 := by decide +kernel
theorem tyJx8e188_ok : ∀ k, k < 0 → parseFieldDescriptor (TJx8e188 k).2.2.1 = some (tyJx8e188 k) := by decide +kernel
def RJxb160c : String := "java/lang/Comparable"
def TJxb160c : u_T := fun k => match k with
  | _ => ("", "", "", false)
def tyJxb160c : Nat → FieldType := fun k => match k with
  | _ => .int
theorem nmJxb160c : ∀ a, a < 0 → ∀ b, b < 0 → a ≠ b → (TJxb160c a).2.1 ≠ (TJxb160c b).2.1 := by decide +kernel
theorem tyJxb160c_ok : ∀ k, k < 0 → parseFieldDescriptor (TJxb160c k).2.2.1 = some (tyJxb160c k) := by decide +kernel
def RJ6 : String := "java/lang/Integer"
def TJ6 : u_T := fun k => match k with
  | _ => ("", "", "", false)
def tyJ6 : Nat → FieldType := fun k => match k with
  | _ => .int
theorem nmJ6 : ∀ a, a < 0 → ∀ b, b < 0 → a ≠ b → (TJ6 a).2.1 ≠ (TJ6 b).2.1 := by decide +kernel
theorem tyJ6_ok : ∀ k, k < 0 → parseFieldDescriptor (TJ6 k).2.2.1 = some (tyJ6 k) := by decide +kernel
abbrev cJ6_getChars_ba4f3 : ByteArray := prog_13_method_12_code
def yJ6_getChars_ba4f3 : MethodName := ⟨RJ6, "getChars", "(II[B)I"⟩
abbrev cJ6_stringSize_0f7a4 : ByteArray := prog_13_method_13_code
def yJ6_stringSize_0f7a4 : MethodName := ⟨RJ6, "stringSize", "(I)I"⟩
def RJ9 : String := "java/lang/Math"
def TJ9 : u_T := fun k => match k with
  | _ => ("", "", "", false)
def tyJ9 : Nat → FieldType := fun k => match k with
  | _ => .int
theorem nmJ9 : ∀ a, a < 0 → ∀ b, b < 0 → a ≠ b → (TJ9 a).2.1 ≠ (TJ9 b).2.1 := by decide +kernel
theorem tyJ9_ok : ∀ k, k < 0 → parseFieldDescriptor (TJ9 k).2.2.1 = some (tyJ9 k) := by decide +kernel
abbrev cJ9_max_7cf53 : ByteArray := prog_14_method_65_code
def yJ9_max_7cf53 : MethodName := ⟨RJ9, "max", "(II)I"⟩
abbrev cJ9_min_7cf53 : ByteArray := prog_14_method_69_code
def yJ9_min_7cf53 : MethodName := ⟨RJ9, "min", "(II)I"⟩
def RJxd2413 : String := "java/lang/Number"
def TJxd2413 : u_T := fun k => match k with
  | _ => ("", "", "", false)
def tyJxd2413 : Nat → FieldType := fun k => match k with
  | _ => .int
theorem nmJxd2413 : ∀ a, a < 0 → ∀ b, b < 0 → a ≠ b → (TJxd2413 a).2.1 ≠ (TJxd2413 b).2.1 := by decide +kernel
theorem tyJxd2413_ok : ∀ k, k < 0 → parseFieldDescriptor (TJxd2413 k).2.2.1 = some (tyJxd2413 k) := by decide +kernel
def RJ0 : String := "java/lang/String"
def TJ0 : u_T := fun k => match k with
  | 0 => ("java/lang/String", "value", "[B", true)
  | 1 => ("java/lang/String", "coder", "B", true)
  | 2 => ("java/lang/String", "hash", "I", false)
  | _ => ("java/lang/String", "hashIsZero", "Z", false)
def tyJ0 : Nat → FieldType := fun k => match k with
  | 0 => .array .byte
  | 1 => .byte
  | 2 => .int
  | _ => .boolean
theorem nmJ0 : ∀ a, a < 4 → ∀ b, b < 4 → a ≠ b → (TJ0 a).2.1 ≠ (TJ0 b).2.1 := by decide +kernel
theorem tyJ0_ok : ∀ k, k < 4 → parseFieldDescriptor (TJ0 k).2.2.1 = some (tyJ0 k) := by decide +kernel
abbrev cJ0_init_81219 : ByteArray := prog_17_method_53_code
def yJ0_init_81219 : MethodName := ⟨RJ0, "<init>", "(Ljava/lang/StringBuilder;)V"⟩
abbrev cJ0_length_8abf5 : ByteArray := prog_17_method_54_code
def yJ0_length_8abf5 : MethodName := ⟨RJ0, "length", "()I"⟩
abbrev cJ0_charAt_5068e : ByteArray := prog_17_method_56_code
def yJ0_charAt_5068e : MethodName := ⟨RJ0, "charAt", "(I)C"⟩
abbrev cJ0_getBytes_840e7 : ByteArray := prog_17_method_147_code
def yJ0_getBytes_840e7 : MethodName := ⟨RJ0, "getBytes", "([BIB)V"⟩
abbrev cJ0_init_db425 : ByteArray := prog_17_method_150_code
def yJ0_init_db425 : MethodName := ⟨RJ0, "<init>", "(Ljava/lang/AbstractStringBuilder;Ljava/lang/Void;)V"⟩
abbrev cJ0_coder_7d493 : ByteArray := prog_17_method_152_code
def yJ0_coder_7d493 : MethodName := ⟨RJ0, "coder", "()B"⟩
abbrev cJ0_isLatin1_aae02 : ByteArray := prog_17_method_154_code
def yJ0_isLatin1_aae02 : MethodName := ⟨RJ0, "isLatin1", "()Z"⟩
abbrev cJ0_checkIndex_df160 : ByteArray := prog_17_method_155_code
def yJ0_checkIndex_df160 : MethodName := ⟨RJ0, "checkIndex", "(II)V"⟩
abbrev cJ0_checkBoundsOffCount_cabcc : ByteArray := prog_17_method_157_code
def yJ0_checkBoundsOffCount_cabcc : MethodName := ⟨RJ0, "checkBoundsOffCount", "(III)I"⟩
abbrev cJ0_checkBoundsBeginEnd_23922 : ByteArray := prog_17_method_158_code
def yJ0_checkBoundsBeginEnd_23922 : MethodName := ⟨RJ0, "checkBoundsBeginEnd", "(III)V"⟩
def RJ4 : String := "java/lang/StringBuilder"
def TJ4 : u_T := fun k => match k with
  | 0 => ("java/lang/AbstractStringBuilder", "value", "[B", false)
  | 1 => ("java/lang/AbstractStringBuilder", "coder", "B", false)
  | 2 => ("java/lang/AbstractStringBuilder", "maybeLatin1", "Z", false)
  | _ => ("java/lang/AbstractStringBuilder", "count", "I", false)
def tyJ4 : Nat → FieldType := fun k => match k with
  | 0 => .array .byte
  | 1 => .byte
  | 2 => .boolean
  | _ => .int
theorem nmJ4 : ∀ a, a < 4 → ∀ b, b < 4 → a ≠ b → (TJ4 a).2.1 ≠ (TJ4 b).2.1 := by decide +kernel
theorem tyJ4_ok : ∀ k, k < 4 → parseFieldDescriptor (TJ4 k).2.2.1 = some (tyJ4 k) := by decide +kernel
abbrev cJ4_init_da8c8 : ByteArray := prog_18_method_1_code
def yJ4_init_da8c8 : MethodName := ⟨RJ4, "<init>", "()V"⟩
abbrev cJ4_init_a7421 : ByteArray := prog_18_method_3_code
def yJ4_init_a7421 : MethodName := ⟨RJ4, "<init>", "(Ljava/lang/String;)V"⟩
abbrev cJ4_append_15ec4 : ByteArray := prog_18_method_7_code
def yJ4_append_15ec4 : MethodName := ⟨RJ4, "append", "(Ljava/lang/String;)Ljava/lang/StringBuilder;"⟩
abbrev cJ4_append_cf468 : ByteArray := prog_18_method_14_code
def yJ4_append_cf468 : MethodName := ⟨RJ4, "append", "(C)Ljava/lang/StringBuilder;"⟩
abbrev cJ4_append_bf812 : ByteArray := prog_18_method_15_code
def yJ4_append_bf812 : MethodName := ⟨RJ4, "append", "(I)Ljava/lang/StringBuilder;"⟩
abbrev cJ4_toString_0e30d : ByteArray := prog_18_method_42_code
def yJ4_toString_0e30d : MethodName := ⟨RJ4, "toString", "()Ljava/lang/String;"⟩
abbrev cJ4_append_cf1ce : ByteArray := prog_18_method_80_code
def yJ4_append_cf1ce : MethodName := ⟨RJ4, "append", "(Ljava/lang/String;)Ljava/lang/AbstractStringBuilder;"⟩
abbrev cJ4_length_8abf5 : ByteArray := prog_18_method_93_code
def yJ4_length_8abf5 : MethodName := ⟨RJ4, "length", "()I"⟩
def RJ1 : String := "java/lang/StringLatin1"
def TJ1 : u_T := fun k => match k with
  | _ => ("", "", "", false)
def tyJ1 : Nat → FieldType := fun k => match k with
  | _ => .int
theorem nmJ1 : ∀ a, a < 0 → ∀ b, b < 0 → a ≠ b → (TJ1 a).2.1 ≠ (TJ1 b).2.1 := by decide +kernel
theorem tyJ1_ok : ∀ k, k < 0 → parseFieldDescriptor (TJ1 k).2.2.1 = some (tyJ1 k) := by decide +kernel
abbrev cJ1_charAt_3b067 : ByteArray := prog_19_method_2_code
def yJ1_charAt_3b067 : MethodName := ⟨RJ1, "charAt", "([BI)C"⟩
abbrev cJ1_canEncode_fc78d : ByteArray := prog_19_method_3_code
def yJ1_canEncode_fc78d : MethodName := ⟨RJ1, "canEncode", "(C)Z"⟩
abbrev cJ1_inflate_0e8fd : ByteArray := prog_19_method_50_code
def yJ1_inflate_0e8fd : MethodName := ⟨RJ1, "inflate", "([BI[BII)V"⟩
def RJ2 : String := "java/lang/StringUTF16"
def TJ2 : u_T := fun k => match k with
  | _ => ("", "", "", false)
def tyJ2 : Nat → FieldType := fun k => match k with
  | _ => .int
theorem nmJ2 : ∀ a, a < 0 → ∀ b, b < 0 → a ≠ b → (TJ2 a).2.1 ≠ (TJ2 b).2.1 := by decide +kernel
theorem tyJ2_ok : ∀ k, k < 0 → parseFieldDescriptor (TJ2 k).2.2.1 = some (tyJ2 k) := by decide +kernel
abbrev cJ2_newBytesFor_77867 : ByteArray := prog_20_method_2_code
def yJ2_newBytesFor_77867 : MethodName := ⟨RJ2, "newBytesFor", "(I)[B"⟩
abbrev cJ2_newBytesLength_0f7a4 : ByteArray := prog_20_method_3_code
def yJ2_newBytesLength_0f7a4 : MethodName := ⟨RJ2, "newBytesLength", "(I)I"⟩
abbrev cJ2_putChar_b72d1 : ByteArray := prog_20_method_4_code
def yJ2_putChar_b72d1 : MethodName := ⟨RJ2, "putChar", "([BII)V"⟩
abbrev cJ2_getChar_3b067 : ByteArray := prog_20_method_5_code
def yJ2_getChar_3b067 : MethodName := ⟨RJ2, "getChar", "([BI)C"⟩
abbrev cJ2_length_9d52b : ByteArray := prog_20_method_6_code
def yJ2_length_9d52b : MethodName := ⟨RJ2, "length", "([B)I"⟩
abbrev cJ2_coderFromArrayLen_85cad : ByteArray := prog_20_method_15_code
def yJ2_coderFromArrayLen_85cad : MethodName := ⟨RJ2, "coderFromArrayLen", "([BI)B"⟩
abbrev cJ2_compress_39247 : ByteArray := prog_20_method_17_code
def yJ2_compress_39247 : MethodName := ⟨RJ2, "compress", "([BII)[B"⟩
abbrev cJ2_compress_5af95 : ByteArray := prog_20_method_22_code
def yJ2_compress_5af95 : MethodName := ⟨RJ2, "compress", "([BI[BII)I"⟩
abbrev cJ2_putCharSB_b72d1 : ByteArray := prog_20_method_71_code
def yJ2_putCharSB_b72d1 : MethodName := ⟨RJ2, "putCharSB", "([BII)V"⟩
abbrev cJ2_getChars_46870 : ByteArray := prog_20_method_77_code
def yJ2_getChars_46870 : MethodName := ⟨RJ2, "getChars", "(III[B)I"⟩
abbrev cJ2_putCharsAt_cd4e5 : ByteArray := prog_20_method_81_code
def yJ2_putCharsAt_cd4e5 : MethodName := ⟨RJ2, "putCharsAt", "([BICCCC)I"⟩
abbrev cJ2_charAt_3b067 : ByteArray := prog_20_method_83_code
def yJ2_charAt_3b067 : MethodName := ⟨RJ2, "charAt", "([BI)C"⟩
abbrev cJ2_inflate_0e8fd : ByteArray := prog_20_method_86_code
def yJ2_inflate_0e8fd : MethodName := ⟨RJ2, "inflate", "([BI[BII)V"⟩
abbrev cJ2_getChars_ba4f3 : ByteArray := prog_20_method_89_code
def yJ2_getChars_ba4f3 : MethodName := ⟨RJ2, "getChars", "(II[B)I"⟩
abbrev cJ2_checkIndex_2214a : ByteArray := prog_20_method_91_code
def yJ2_checkIndex_2214a : MethodName := ⟨RJ2, "checkIndex", "(I[B)V"⟩
abbrev cJ2_checkBoundsBeginEnd_d044e : ByteArray := prog_20_method_93_code
def yJ2_checkBoundsBeginEnd_d044e : MethodName := ⟨RJ2, "checkBoundsBeginEnd", "(II[B)V"⟩
abbrev cJ2_checkBoundsOffCount_d044e : ByteArray := prog_20_method_94_code
def yJ2_checkBoundsOffCount_d044e : MethodName := ⟨RJ2, "checkBoundsOffCount", "(II[B)V"⟩
def RJ10 : String := "java/lang/System"
def TJ10 : u_T := fun k => match k with
  | _ => ("", "", "", false)
def tyJ10 : Nat → FieldType := fun k => match k with
  | _ => .int
theorem nmJ10 : ∀ a, a < 0 → ∀ b, b < 0 → a ≠ b → (TJ10 a).2.1 ≠ (TJ10 b).2.1 := by decide +kernel
theorem tyJ10_ok : ∀ k, k < 0 → parseFieldDescriptor (TJ10 k).2.2.1 = some (tyJ10 k) := by decide +kernel
def RJxfd54e : String := "java/lang/constant/Constable"
def TJxfd54e : u_T := fun k => match k with
  | _ => ("", "", "", false)
def tyJxfd54e : Nat → FieldType := fun k => match k with
  | _ => .int
theorem nmJxfd54e : ∀ a, a < 0 → ∀ b, b < 0 → a ≠ b → (TJxfd54e a).2.1 ≠ (TJxfd54e b).2.1 := by decide +kernel
theorem tyJxfd54e_ok : ∀ k, k < 0 → parseFieldDescriptor (TJxfd54e k).2.2.1 = some (tyJxfd54e k) := by decide +kernel
def RJx3cf43 : String := "java/lang/constant/ConstantDesc"
def TJx3cf43 : u_T := fun k => match k with
  | _ => ("", "", "", false)
def tyJx3cf43 : Nat → FieldType := fun k => match k with
  | _ => .int
theorem nmJx3cf43 : ∀ a, a < 0 → ∀ b, b < 0 → a ≠ b → (TJx3cf43 a).2.1 ≠ (TJx3cf43 b).2.1 := by decide +kernel
theorem tyJx3cf43_ok : ∀ k, k < 0 → parseFieldDescriptor (TJx3cf43 k).2.2.1 = some (tyJx3cf43 k) := by decide +kernel
def RJ7 : String := "java/util/Arrays"
def TJ7 : u_T := fun k => match k with
  | _ => ("", "", "", false)
def tyJ7 : Nat → FieldType := fun k => match k with
  | _ => .int
theorem nmJ7 : ∀ a, a < 0 → ∀ b, b < 0 → a ≠ b → (TJ7 a).2.1 ≠ (TJ7 b).2.1 := by decide +kernel
theorem tyJ7_ok : ∀ k, k < 0 → parseFieldDescriptor (TJ7 k).2.2.1 = some (tyJ7 k) := by decide +kernel
abbrev cJ7_fill_53178 : ByteArray := prog_23_method_103_code
def yJ7_fill_53178 : MethodName := ⟨RJ7, "fill", "([II)V"⟩
abbrev cJ7_copyOf_9075b : ByteArray := prog_23_method_121_code
def yJ7_copyOf_9075b : MethodName := ⟨RJ7, "copyOf", "([BI)[B"⟩
abbrev cJ7_checkLength_df160 : ByteArray := prog_23_method_131_code
def yJ7_checkLength_df160 : MethodName := ⟨RJ7, "checkLength", "(II)V"⟩
abbrev cJ7_copyOfRange_39247 : ByteArray := prog_23_method_132_code
def yJ7_copyOfRange_39247 : MethodName := ⟨RJ7, "copyOfRange", "([BII)[B"⟩
abbrev cJ7_copyOfRangeByte_39247 : ByteArray := prog_23_method_133_code
def yJ7_copyOfRangeByte_39247 : MethodName := ⟨RJ7, "copyOfRangeByte", "([BII)[B"⟩
def RJ8 : String := "jdk/internal/util/ArraysSupport"
def TJ8 : u_T := fun k => match k with
  | _ => ("", "", "", false)
def tyJ8 : Nat → FieldType := fun k => match k with
  | _ => .int
theorem nmJ8 : ∀ a, a < 0 → ∀ b, b < 0 → a ≠ b → (TJ8 a).2.1 ≠ (TJ8 b).2.1 := by decide +kernel
theorem tyJ8_ok : ∀ k, k < 0 → parseFieldDescriptor (TJ8 k).2.2.1 = some (tyJ8 k) := by decide +kernel
abbrev cJ8_newLength_cabcc : ByteArray := prog_24_method_27_code
def yJ8_newLength_cabcc : MethodName := ⟨RJ8, "newLength", "(III)I"⟩
abbrev cJ8_hugeLength_7cf53 : ByteArray := prog_24_method_28_code
def yJ8_hugeLength_7cf53 : MethodName := ⟨RJ8, "hugeLength", "(II)I"⟩
def RJ3 : String := "jdk/internal/util/Preconditions"
def TJ3 : u_T := fun k => match k with
  | _ => ("", "", "", false)
def tyJ3 : Nat → FieldType := fun k => match k with
  | _ => .int
theorem nmJ3 : ∀ a, a < 0 → ∀ b, b < 0 → a ≠ b → (TJ3 a).2.1 ≠ (TJ3 b).2.1 := by decide +kernel
theorem tyJ3_ok : ∀ k, k < 0 → parseFieldDescriptor (TJ3 k).2.2.1 = some (tyJ3 k) := by decide +kernel
abbrev cJ3_checkIndex_8e157 : ByteArray := prog_25_method_11_code
def yJ3_checkIndex_8e157 : MethodName := ⟨RJ3, "checkIndex", "(IILjava/util/function/BiFunction;)I"⟩
abbrev cJ3_checkFromToIndex_8c36e : ByteArray := prog_25_method_12_code
def yJ3_checkFromToIndex_8c36e : MethodName := ⟨RJ3, "checkFromToIndex", "(IIILjava/util/function/BiFunction;)I"⟩
abbrev cJ3_checkFromIndexSize_8c36e : ByteArray := prog_25_method_13_code
def yJ3_checkFromIndexSize_8c36e : MethodName := ⟨RJ3, "checkFromIndexSize", "(IIILjava/util/function/BiFunction;)I"⟩
def RL : String := "InventedBirthdaysLaw"
abbrev cL_next : ByteArray := method_2_code
def yL_next : MethodName := ⟨RL, "next", "([I)I"⟩
abbrev cL_type : ByteArray := method_3_code
def yL_type : MethodName := ⟨RL, "type", "(LInventedBirthdays;Ljava/lang/String;)I"⟩
abbrev cL_load : ByteArray := method_4_code
def yL_load : MethodName := ⟨RL, "load", "(LInventedBirthdays;Ljava/lang/String;)I"⟩
abbrev cL_undone : ByteArray := method_5_code
def yL_undone : MethodName := ⟨RL, "undone", "(LInventedBirthdays;)I"⟩
abbrev cL_advanced : ByteArray := method_6_code
def yL_advanced : MethodName := ⟨RL, "advanced", "(LInventedBirthdays;I)I"⟩
abbrev cL_drawn : ByteArray := method_7_code
def yL_drawn : MethodName := ⟨RL, "drawn", "(LInventedBirthdays;I)I"⟩
abbrev cL_set : ByteArray := method_8_code
def yL_set : MethodName := ⟨RL, "set", "(LInventedBirthdays;III)I"⟩
abbrev cL_forgotten : ByteArray := method_9_code
def yL_forgotten : MethodName := ⟨RL, "forgotten", "(LInventedBirthdays;I)I"⟩
abbrev cL_moved : ByteArray := method_10_code
def yL_moved : MethodName := ⟨RL, "moved", "(LInventedBirthdays;II)I"⟩
abbrev cL_bought : ByteArray := method_11_code
def yL_bought : MethodName := ⟨RL, "bought", "(LInventedBirthdays;I)I"⟩
abbrev cL_baked : ByteArray := method_12_code
def yL_baked : MethodName := ⟨RL, "baked", "(LInventedBirthdays;II)I"⟩
abbrev cL_dateAt : ByteArray := method_13_code
def yL_dateAt : MethodName := ⟨RL, "dateAt", "(LInventedBirthdays;I)I"⟩
abbrev cL_registry : ByteArray := method_14_code
def yL_registry : MethodName := ⟨RL, "registry", "(II[I)Ljava/lang/String;"⟩
abbrev cL_sum : ByteArray := method_15_code
def yL_sum : MethodName := ⟨RL, "sum", "(LInventedBirthdays;)J"⟩
abbrev cL_children : ByteArray := method_16_code
def yL_children : MethodName := ⟨RL, "children", "(LInventedBirthdays;)Z"⟩
abbrev cL_dates : ByteArray := method_17_code
def yL_dates : MethodName := ⟨RL, "dates", "(LInventedBirthdays;)Z"⟩
abbrev cL_act : ByteArray := method_18_code
def yL_act : MethodName := ⟨RL, "act", "(LInventedBirthdays;[I)Z"⟩
abbrev cL_law : ByteArray := code
def yL_law : MethodName := ⟨RL, "law", "([I)Z"⟩
abbrev vwCl : List vw_C := [(RX0, TX0, 3), (RX1, TX1, 9), (RX2, TX2, 20), (RX3, TX3, 10), (RJ4, TJ4, 4), (RJ0, TJ0, 4)]
