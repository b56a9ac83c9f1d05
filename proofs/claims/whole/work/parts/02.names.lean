def RX0 : String := "SermonPanes$Church"
def TX0 : u_T := fun k => match k with
  | 0 => ("SermonPanes$Church", "now", "LSermonPanes$Nave;", true)
  | 1 => ("SermonPanes$Church", "wordHue", "[I", true)
  | 2 => ("SermonPanes$Church", "wordForce", "[I", true)
  | 3 => ("SermonPanes$Church", "toldParts", "[I", true)
  | 4 => ("SermonPanes$Church", "laws", "[LSermonPanes$Text;", true)
  | 5 => ("SermonPanes$Church", "light", "[I", true)
  | 6 => ("SermonPanes$Church", "words", "I", false)
  | 7 => ("SermonPanes$Church", "listeners", "I", false)
  | 8 => ("SermonPanes$Church", "tolds", "I", false)
  | 9 => ("SermonPanes$Church", "lawCount", "I", false)
  | 10 => ("SermonPanes$Church", "inForce", "I", false)
  | 11 => ("SermonPanes$Church", "comes", "I", false)
  | 12 => ("SermonPanes$Church", "mood", "I", false)
  | 13 => ("SermonPanes$Church", "asked", "[I", true)
  | _ => ("SermonPanes$Church", "sums", "LSermonPanes$Sums;", true)
def tyX0 : Nat → FieldType := fun k => match k with
  | 0 => .object "SermonPanes$Nave"
  | 1 => .array .int
  | 2 => .array .int
  | 3 => .array .int
  | 4 => .array (.object "SermonPanes$Text")
  | 5 => .array .int
  | 6 => .int
  | 7 => .int
  | 8 => .int
  | 9 => .int
  | 10 => .int
  | 11 => .int
  | 12 => .int
  | 13 => .array .int
  | _ => .object "SermonPanes$Sums"
abbrev wsX00 : List Cond := u_ws RX0 TX0 15
theorem nmX0 : ∀ a, a < 15 → ∀ b, b < 15 → a ≠ b → (TX0 a).2.1 ≠ (TX0 b).2.1 := by decide +kernel
theorem tyX0_ok : ∀ k, k < 15 → parseFieldDescriptor (TX0 k).2.2.1 = some (tyX0 k) := by decide +kernel
abbrev cX0_init : ByteArray := prog_2_method_1_code
def yX0_init : MethodName := ⟨RX0, "<init>", "(LSermonPanes$Sums;)V"⟩
abbrev cX0_copyFrom : ByteArray := prog_2_method_2_code
def yX0_copyFrom : MethodName := ⟨RX0, "copyFrom", "(LSermonPanes$Church;)V"⟩
abbrev cX0_isWord : ByteArray := prog_2_method_3_code
def yX0_isWord : MethodName := ⟨RX0, "isWord", "(I)Z"⟩
abbrev cX0_isListener : ByteArray := prog_2_method_4_code
def yX0_isListener : MethodName := ⟨RX0, "isListener", "(I)Z"⟩
abbrev cX0_isLaw : ByteArray := prog_2_method_5_code
def yX0_isLaw : MethodName := ⟨RX0, "isLaw", "(I)Z"⟩
abbrev cX0_isTaken : ByteArray := prog_2_method_6_code
def yX0_isTaken : MethodName := ⟨RX0, "isTaken", "(I)Z"⟩
abbrev cX0_termOf : ByteArray := prog_2_method_7_code
def yX0_termOf : MethodName := ⟨RX0, "termOf", "(I)I"⟩
abbrev cX0_awayOf : ByteArray := prog_2_method_8_code
def yX0_awayOf : MethodName := ⟨RX0, "awayOf", "(I)I"⟩
abbrev cX0_stainOf : ByteArray := prog_2_method_9_code
def yX0_stainOf : MethodName := ⟨RX0, "stainOf", "(II)I"⟩
abbrev cX0_isBarred : ByteArray := prog_2_method_10_code
def yX0_isBarred : MethodName := ⟨RX0, "isBarred", "(I)Z"⟩
abbrev cX0_blackFrom : ByteArray := prog_2_method_11_code
def yX0_blackFrom : MethodName := ⟨RX0, "blackFrom", "(I)I"⟩
abbrev cX0_isBlack : ByteArray := prog_2_method_12_code
def yX0_isBlack : MethodName := ⟨RX0, "isBlack", "(I)Z"⟩
abbrev cX0_blackPanes : ByteArray := prog_2_method_13_code
def yX0_blackPanes : MethodName := ⟨RX0, "blackPanes", "()I"⟩
abbrev cX0_upperPaneOf : ByteArray := prog_2_method_14_code
def yX0_upperPaneOf : MethodName := ⟨RX0, "upperPaneOf", "(I)I"⟩
abbrev cX0_shine : ByteArray := prog_2_method_15_code
def yX0_shine : MethodName := ⟨RX0, "shine", "(I)V"⟩
abbrev cX0_doesTo : ByteArray := prog_2_method_16_code
def yX0_doesTo : MethodName := ⟨RX0, "doesTo", "(I)I"⟩
abbrev cX0_spiritAfter : ByteArray := prog_2_method_17_code
def yX0_spiritAfter : MethodName := ⟨RX0, "spiritAfter", "(I)I"⟩
abbrev cX0_ask : ByteArray := prog_2_method_18_code
def yX0_ask : MethodName := ⟨RX0, "ask", "(II)V"⟩
abbrev cX0_lastTold : ByteArray := prog_2_method_19_code
def yX0_lastTold : MethodName := ⟨RX0, "lastTold", "(I)I"⟩
abbrev cX0_preachWord : ByteArray := prog_2_method_20_code
def yX0_preachWord : MethodName := ⟨RX0, "preachWord", "(I)I"⟩
abbrev cX0_scrapeOne : ByteArray := prog_2_method_21_code
def yX0_scrapeOne : MethodName := ⟨RX0, "scrapeOne", "(II)I"⟩
abbrev cX0_walkTo : ByteArray := prog_2_method_22_code
def yX0_walkTo : MethodName := ⟨RX0, "walkTo", "(I)I"⟩
abbrev cX0_seatAt : ByteArray := prog_2_method_23_code
def yX0_seatAt : MethodName := ⟨RX0, "seatAt", "(II)I"⟩
abbrev cX0_passHour : ByteArray := prog_2_method_24_code
def yX0_passHour : MethodName := ⟨RX0, "passHour", "()I"⟩
abbrev cX0_liveYears : ByteArray := prog_2_method_25_code
def yX0_liveYears : MethodName := ⟨RX0, "liveYears", "(II)I"⟩
abbrev cX0_nextSeed : ByteArray := prog_2_method_26_code
def yX0_nextSeed : MethodName := ⟨RX0, "nextSeed", "(I)I"⟩
def RX1 : String := "SermonPanes$Nave"
def TX1 : u_T := fun k => match k with
  | 0 => ("SermonPanes$Nave", "hues", "[I", true)
  | 1 => ("SermonPanes$Nave", "spirits", "[I", true)
  | 2 => ("SermonPanes$Nave", "seats", "[I", true)
  | 3 => ("SermonPanes$Nave", "pulpit", "I", false)
  | _ => ("SermonPanes$Nave", "hour", "I", false)
def tyX1 : Nat → FieldType := fun k => match k with
  | 0 => .array .int
  | 1 => .array .int
  | 2 => .array .int
  | 3 => .int
  | _ => .int
abbrev wsX10 : List Cond := u_ws RX1 TX1 5
theorem nmX1 : ∀ a, a < 5 → ∀ b, b < 5 → a ≠ b → (TX1 a).2.1 ≠ (TX1 b).2.1 := by decide +kernel
theorem tyX1_ok : ∀ k, k < 5 → parseFieldDescriptor (TX1 k).2.2.1 = some (tyX1 k) := by decide +kernel
abbrev cX1_init : ByteArray := prog_3_method_1_code
def yX1_init : MethodName := ⟨RX1, "<init>", "()V"⟩
abbrev cX1_copyFrom : ByteArray := prog_3_method_2_code
def yX1_copyFrom : MethodName := ⟨RX1, "copyFrom", "(LSermonPanes$Nave;)V"⟩
abbrev cX1_hueOf : ByteArray := prog_3_method_3_code
def yX1_hueOf : MethodName := ⟨RX1, "hueOf", "(II)I"⟩
abbrev cX1_allHuesOf : ByteArray := prog_3_method_4_code
def yX1_allHuesOf : MethodName := ⟨RX1, "allHuesOf", "(I)I"⟩
def RX2 : String := "SermonPanes$Paper"
def TX2 : u_T := fun k => match k with
  | 0 => ("SermonPanes$Paper", "sets", "[I", true)
  | 1 => ("SermonPanes$Paper", "mostAlike", "I", false)
  | 2 => ("SermonPanes$Paper", "mostStain", "I", false)
  | 3 => ("SermonPanes$Paper", "church", "LSermonPanes$Church;", true)
  | 4 => ("SermonPanes$Paper", "copy", "LSermonPanes$Church;", true)
  | 5 => ("SermonPanes$Paper", "stains", "[I", true)
  | 6 => ("SermonPanes$Paper", "wanted", "[I", true)
  | 7 => ("SermonPanes$Paper", "fewest", "[I", true)
  | 8 => ("SermonPanes$Paper", "amounts", "[I", true)
  | 9 => ("SermonPanes$Paper", "alike", "[I", true)
  | 10 => ("SermonPanes$Paper", "does", "[I", true)
  | 11 => ("SermonPanes$Paper", "mostFrom", "[I", true)
  | 12 => ("SermonPanes$Paper", "unlike", "[I", true)
  | 13 => ("SermonPanes$Paper", "blackAt", "[I", true)
  | 14 => ("SermonPanes$Paper", "blackAhead", "[I", true)
  | 15 => ("SermonPanes$Paper", "chances", "[J", true)
  | 16 => ("SermonPanes$Paper", "setCount", "I", false)
  | 17 => ("SermonPanes$Paper", "pairs", "I", false)
  | _ => ("SermonPanes$Paper", "destination", "I", false)
def tyX2 : Nat → FieldType := fun k => match k with
  | 0 => .array .int
  | 1 => .int
  | 2 => .int
  | 3 => .object "SermonPanes$Church"
  | 4 => .object "SermonPanes$Church"
  | 5 => .array .int
  | 6 => .array .int
  | 7 => .array .int
  | 8 => .array .int
  | 9 => .array .int
  | 10 => .array .int
  | 11 => .array .int
  | 12 => .array .int
  | 13 => .array .int
  | 14 => .array .int
  | 15 => .array .long
  | 16 => .int
  | 17 => .int
  | _ => .int
abbrev wsX20 : List Cond := u_ws RX2 TX2 19
theorem nmX2 : ∀ a, a < 19 → ∀ b, b < 19 → a ≠ b → (TX2 a).2.1 ≠ (TX2 b).2.1 := by decide +kernel
theorem tyX2_ok : ∀ k, k < 19 → parseFieldDescriptor (TX2 k).2.2.1 = some (tyX2 k) := by decide +kernel
abbrev cX2_init : ByteArray := prog_4_method_1_code
def yX2_init : MethodName := ⟨RX2, "<init>", "(LSermonPanes$Church;LSermonPanes$Sums;)V"⟩
abbrev cX2_stain : ByteArray := prog_4_method_2_code
def yX2_stain : MethodName := ⟨RX2, "stain", "(II)I"⟩
abbrev cX2_fillStains : ByteArray := prog_4_method_3_code
def yX2_fillStains : MethodName := ⟨RX2, "fillStains", "(I)V"⟩
abbrev cX2_fillAllStains : ByteArray := prog_4_method_4_code
def yX2_fillAllStains : MethodName := ⟨RX2, "fillAllStains", "()V"⟩
abbrev cX2_prepareSermon : ByteArray := prog_4_method_5_code
def yX2_prepareSermon : MethodName := ⟨RX2, "prepareSermon", "(IIII)I"⟩
abbrev cX2_fewestFor : ByteArray := prog_4_method_6_code
def yX2_fewestFor : MethodName := ⟨RX2, "fewestFor", "(I)I"⟩
abbrev cX2_wordOfSermon : ByteArray := prog_4_method_7_code
def yX2_wordOfSermon : MethodName := ⟨RX2, "wordOfSermon", "(I)I"⟩
abbrev cX2_lowestThatHelps : ByteArray := prog_4_method_8_code
def yX2_lowestThatHelps : MethodName := ⟨RX2, "lowestThatHelps", "()I"⟩
abbrev cX2_findSets : ByteArray := prog_4_method_9_code
def yX2_findSets : MethodName := ⟨RX2, "findSets", "()I"⟩
abbrev cX2_fits : ByteArray := prog_4_method_10_code
def yX2_fits : MethodName := ⟨RX2, "fits", "(I)Z"⟩
abbrev cX2_findPaneToLookAt : ByteArray := prog_4_method_11_code
def yX2_findPaneToLookAt : MethodName := ⟨RX2, "findPaneToLookAt", "()I"⟩
abbrev cX2_mostAlikeAt : ByteArray := prog_4_method_12_code
def yX2_mostAlikeAt : MethodName := ⟨RX2, "mostAlikeAt", "(I)I"⟩
abbrev cX2_prepareSeats : ByteArray := prog_4_method_13_code
def yX2_prepareSeats : MethodName := ⟨RX2, "prepareSeats", "()I"⟩
abbrev cX2_mostFor : ByteArray := prog_4_method_14_code
def yX2_mostFor : MethodName := ⟨RX2, "mostFor", "(II)I"⟩
abbrev cX2_seatOf : ByteArray := prog_4_method_15_code
def yX2_seatOf : MethodName := ⟨RX2, "seatOf", "(I)I"⟩
abbrev cX2_lowestBestSeat : ByteArray := prog_4_method_16_code
def yX2_lowestBestSeat : MethodName := ⟨RX2, "lowestBestSeat", "(II)I"⟩
abbrev cX2_scrapingsFor : ByteArray := prog_4_method_17_code
def yX2_scrapingsFor : MethodName := ⟨RX2, "scrapingsFor", "(I)I"⟩
abbrev cX2_fewestPanesApart : ByteArray := prog_4_method_18_code
def yX2_fewestPanesApart : MethodName := ⟨RX2, "fewestPanesApart", "()I"⟩
abbrev cX2_fillUnlike : ByteArray := prog_4_method_19_code
def yX2_fillUnlike : MethodName := ⟨RX2, "fillUnlike", "()V"⟩
abbrev cX2_isUnlike : ByteArray := prog_4_method_20_code
def yX2_isUnlike : MethodName := ⟨RX2, "isUnlike", "(III)Z"⟩
abbrev cX2_tellsApart : ByteArray := prog_4_method_21_code
def yX2_tellsApart : MethodName := ⟨RX2, "tellsApart", "(I)Z"⟩
abbrev cX2_nextOfSize : ByteArray := prog_4_method_22_code
def yX2_nextOfSize : MethodName := ⟨RX2, "nextOfSize", "(I)I"⟩
abbrev cX2_bestPlaceFor : ByteArray := prog_4_method_23_code
def yX2_bestPlaceFor : MethodName := ⟨RX2, "bestPlaceFor", "(I)I"⟩
abbrev cX2_prepareWay : ByteArray := prog_4_method_24_code
def yX2_prepareWay : MethodName := ⟨RX2, "prepareWay", "(I)I"⟩
abbrev cX2_fewestBlackAhead : ByteArray := prog_4_method_25_code
def yX2_fewestBlackAhead : MethodName := ⟨RX2, "fewestBlackAhead", "(I)I"⟩
abbrev cX2_isStepOn : ByteArray := prog_4_method_26_code
def yX2_isStepOn : MethodName := ⟨RX2, "isStepOn", "(II)Z"⟩
abbrev cX2_placeOfWay : ByteArray := prog_4_method_27_code
def yX2_placeOfWay : MethodName := ⟨RX2, "placeOfWay", "(I)I"⟩
abbrev cX2_nextOfWay : ByteArray := prog_4_method_28_code
def yX2_nextOfWay : MethodName := ⟨RX2, "nextOfWay", "(I)I"⟩
abbrev cX2_spiritLater : ByteArray := prog_4_method_29_code
def yX2_spiritLater : MethodName := ⟨RX2, "spiritLater", "(II)I"⟩
abbrev cX2_blackBy : ByteArray := prog_4_method_30_code
def yX2_blackBy : MethodName := ⟨RX2, "blackBy", "(I)I"⟩
abbrev cX2_chanceOfFewer : ByteArray := prog_4_method_31_code
def yX2_chanceOfFewer : MethodName := ⟨RX2, "chanceOfFewer", "(II)J"⟩
def RX3 : String := "SermonPanes$Reader"
def TX3 : u_T := fun k => match k with
  | 0 => ("SermonPanes$Reader", "text", "LSermonPanes$Text;", true)
  | 1 => ("SermonPanes$Reader", "faultAt", "I", false)
  | 2 => ("SermonPanes$Reader", "bytes", "[I", true)
  | 3 => ("SermonPanes$Reader", "length", "I", false)
  | 4 => ("SermonPanes$Reader", "ordering", "Z", false)
  | 5 => ("SermonPanes$Reader", "parts", "I", false)
  | 6 => ("SermonPanes$Reader", "token", "I", false)
  | 7 => ("SermonPanes$Reader", "start", "I", false)
  | 8 => ("SermonPanes$Reader", "stop", "I", false)
  | _ => ("SermonPanes$Reader", "number", "I", false)
def tyX3 : Nat → FieldType := fun k => match k with
  | 0 => .object "SermonPanes$Text"
  | 1 => .int
  | 2 => .array .int
  | 3 => .int
  | 4 => .boolean
  | 5 => .int
  | 6 => .int
  | 7 => .int
  | 8 => .int
  | _ => .int
abbrev wsX30 : List Cond := u_ws RX3 TX3 10
theorem nmX3 : ∀ a, a < 10 → ∀ b, b < 10 → a ≠ b → (TX3 a).2.1 ≠ (TX3 b).2.1 := by decide +kernel
theorem tyX3_ok : ∀ k, k < 10 → parseFieldDescriptor (TX3 k).2.2.1 = some (tyX3 k) := by decide +kernel
abbrev cX3_init : ByteArray := prog_5_method_1_code
def yX3_init : MethodName := ⟨RX3, "<init>", "([I)V"⟩
abbrev cX3_reads : ByteArray := prog_5_method_2_code
def yX3_reads : MethodName := ⟨RX3, "reads", "(IZ)Z"⟩
abbrev cX3_clause : ByteArray := prog_5_method_3_code
def yX3_clause : MethodName := ⟨RX3, "clause", "()Z"⟩
abbrev cX3_often : ByteArray := prog_5_method_4_code
def yX3_often : MethodName := ⟨RX3, "often", "()Z"⟩
abbrev cX3_sumAs : ByteArray := prog_5_method_5_code
def yX3_sumAs : MethodName := ⟨RX3, "sumAs", "(I)Z"⟩
abbrev cX3_test : ByteArray := prog_5_method_6_code
def yX3_test : MethodName := ⟨RX3, "test", "(I)Z"⟩
abbrev cX3_both : ByteArray := prog_5_method_7_code
def yX3_both : MethodName := ⟨RX3, "both", "(I)Z"⟩
abbrev cX3_plain : ByteArray := prog_5_method_8_code
def yX3_plain : MethodName := ⟨RX3, "plain", "(I)Z"⟩
abbrev cX3_sum : ByteArray := prog_5_method_9_code
def yX3_sum : MethodName := ⟨RX3, "sum", "(I)Z"⟩
abbrev cX3_term : ByteArray := prog_5_method_10_code
def yX3_term : MethodName := ⟨RX3, "term", "(I)Z"⟩
abbrev cX3_part : ByteArray := prog_5_method_11_code
def yX3_part : MethodName := ⟨RX3, "part", "(I)Z"⟩
abbrev cX3_lawWord : ByteArray := prog_5_method_12_code
def yX3_lawWord : MethodName := ⟨RX3, "lawWord", "()Z"⟩
abbrev cX3_orderWord : ByteArray := prog_5_method_13_code
def yX3_orderWord : MethodName := ⟨RX3, "orderWord", "()Z"⟩
abbrev cX3_opened : ByteArray := prog_5_method_14_code
def yX3_opened : MethodName := ⟨RX3, "opened", "(I)Z"⟩
abbrev cX3_closed : ByteArray := prog_5_method_15_code
def yX3_closed : MethodName := ⟨RX3, "closed", "(C)Z"⟩
abbrev cX3_wanted : ByteArray := prog_5_method_16_code
def yX3_wanted : MethodName := ⟨RX3, "wanted", "(Ljava/lang/String;)Z"⟩
abbrev cX3_fail : ByteArray := prog_5_method_17_code
def yX3_fail : MethodName := ⟨RX3, "fail", "()Z"⟩
abbrev cX3_next : ByteArray := prog_5_method_18_code
def yX3_next : MethodName := ⟨RX3, "next", "()V"⟩
abbrev cX3_tokenOf : ByteArray := prog_5_method_19_code
def yX3_tokenOf : MethodName := ⟨RX3, "tokenOf", "(I)I"⟩
abbrev cX3_isSign : ByteArray := prog_5_method_20_code
def yX3_isSign : MethodName := ⟨RX3, "isSign", "(C)Z"⟩
abbrev cX3_signIn : ByteArray := prog_5_method_21_code
def yX3_signIn : MethodName := ⟨RX3, "signIn", "(Ljava/lang/String;I)I"⟩
abbrev cX3_isWord : ByteArray := prog_5_method_22_code
def yX3_isWord : MethodName := ⟨RX3, "isWord", "(Ljava/lang/String;)Z"⟩
abbrev cX3_indexIn : ByteArray := prog_5_method_23_code
def yX3_indexIn : MethodName := ⟨RX3, "indexIn", "(Ljava/lang/String;)I"⟩
def RX4 : String := "SermonPanes$Runner"
def TX4 : u_T := fun k => match k with
  | 0 => ("SermonPanes$Runner", "stoppedAt", "I", false)
  | 1 => ("SermonPanes$Runner", "church", "LSermonPanes$Church;", true)
  | 2 => ("SermonPanes$Runner", "trail", "LSermonPanes$Trail;", true)
  | 3 => ("SermonPanes$Runner", "sums", "LSermonPanes$Sums;", true)
  | 4 => ("SermonPanes$Runner", "naveAhead", "LSermonPanes$Nave;", true)
  | 5 => ("SermonPanes$Runner", "trailAhead", "LSermonPanes$Trail;", true)
  | 6 => ("SermonPanes$Runner", "values", "[I", true)
  | 7 => ("SermonPanes$Runner", "done", "I", false)
  | _ => ("SermonPanes$Runner", "latest", "I", false)
def tyX4 : Nat → FieldType := fun k => match k with
  | 0 => .int
  | 1 => .object "SermonPanes$Church"
  | 2 => .object "SermonPanes$Trail"
  | 3 => .object "SermonPanes$Sums"
  | 4 => .object "SermonPanes$Nave"
  | 5 => .object "SermonPanes$Trail"
  | 6 => .array .int
  | 7 => .int
  | _ => .int
abbrev wsX40 : List Cond := u_ws RX4 TX4 9
theorem nmX4 : ∀ a, a < 9 → ∀ b, b < 9 → a ≠ b → (TX4 a).2.1 ≠ (TX4 b).2.1 := by decide +kernel
theorem tyX4_ok : ∀ k, k < 9 → parseFieldDescriptor (TX4 k).2.2.1 = some (tyX4 k) := by decide +kernel
abbrev cX4_init : ByteArray := prog_6_method_1_code
def yX4_init : MethodName := ⟨RX4, "<init>", "(LSermonPanes$Church;LSermonPanes$Trail;LSermonPanes$Sums;)V"⟩
abbrev cX4_begin : ByteArray := prog_6_method_2_code
def yX4_begin : MethodName := ⟨RX4, "begin", "()V"⟩
abbrev cX4_finish : ByteArray := prog_6_method_3_code
def yX4_finish : MethodName := ⟨RX4, "finish", "()I"⟩
abbrev cX4_runClause : ByteArray := prog_6_method_4_code
def yX4_runClause : MethodName := ⟨RX4, "runClause", "(LSermonPanes$Text;I)V"⟩
abbrev cX4_fillValues : ByteArray := prog_6_method_5_code
def yX4_fillValues : MethodName := ⟨RX4, "fillValues", "(Z)V"⟩
def RX5 : String := "SermonPanes$Sums"
def TX5 : u_T := fun k => match k with
  | _ => ("SermonPanes$Sums", "stack", "[I", true)
def tyX5 : Nat → FieldType := fun k => match k with
  | _ => .array .int
abbrev wsX50 : List Cond := u_ws RX5 TX5 1
theorem nmX5 : ∀ a, a < 1 → ∀ b, b < 1 → a ≠ b → (TX5 a).2.1 ≠ (TX5 b).2.1 := by decide +kernel
theorem tyX5_ok : ∀ k, k < 1 → parseFieldDescriptor (TX5 k).2.2.1 = some (tyX5 k) := by decide +kernel
abbrev cX5_init : ByteArray := prog_7_method_1_code
def yX5_init : MethodName := ⟨RX5, "<init>", "()V"⟩
abbrev cX5_worth : ByteArray := prog_7_method_2_code
def yX5_worth : MethodName := ⟨RX5, "worth", "(LSermonPanes$Text;II[I)I"⟩
abbrev cX5_join : ByteArray := prog_7_method_3_code
def yX5_join : MethodName := ⟨RX5, "join", "(IJJ)J"⟩
def RX6 : String := "SermonPanes$Text"
def TX6 : u_T := fun k => match k with
  | 0 => ("SermonPanes$Text", "ops", "[I", true)
  | 1 => ("SermonPanes$Text", "args", "[I", true)
  | 2 => ("SermonPanes$Text", "marks", "[I", true)
  | 3 => ("SermonPanes$Text", "size", "I", false)
  | 4 => ("SermonPanes$Text", "clauses", "I", false)
  | _ => ("SermonPanes$Text", "asksBlack", "Z", false)
def tyX6 : Nat → FieldType := fun k => match k with
  | 0 => .array .int
  | 1 => .array .int
  | 2 => .array .int
  | 3 => .int
  | 4 => .int
  | _ => .boolean
abbrev wsX60 : List Cond := u_ws RX6 TX6 6
theorem nmX6 : ∀ a, a < 6 → ∀ b, b < 6 → a ≠ b → (TX6 a).2.1 ≠ (TX6 b).2.1 := by decide +kernel
theorem tyX6_ok : ∀ k, k < 6 → parseFieldDescriptor (TX6 k).2.2.1 = some (tyX6 k) := by decide +kernel
abbrev cX6_init : ByteArray := prog_8_method_1_code
def yX6_init : MethodName := ⟨RX6, "<init>", "(II)V"⟩
abbrev cX6_clear : ByteArray := prog_8_method_2_code
def yX6_clear : MethodName := ⟨RX6, "clear", "()V"⟩
abbrev cX6_add : ByteArray := prog_8_method_3_code
def yX6_add : MethodName := ⟨RX6, "add", "(II)V"⟩
abbrev cX6_aimHere : ByteArray := prog_8_method_4_code
def yX6_aimHere : MethodName := ⟨RX6, "aimHere", "(I)V"⟩
abbrev cX6_begin : ByteArray := prog_8_method_5_code
def yX6_begin : MethodName := ⟨RX6, "begin", "(I)V"⟩
abbrev cX6_mark : ByteArray := prog_8_method_6_code
def yX6_mark : MethodName := ⟨RX6, "mark", "(II)V"⟩
abbrev cX6_kindOf : ByteArray := prog_8_method_7_code
def yX6_kindOf : MethodName := ⟨RX6, "kindOf", "(I)I"⟩
abbrev cX6_oftenOf : ByteArray := prog_8_method_8_code
def yX6_oftenOf : MethodName := ⟨RX6, "oftenOf", "(I)I"⟩
abbrev cX6_trimmed : ByteArray := prog_8_method_9_code
def yX6_trimmed : MethodName := ⟨RX6, "trimmed", "()LSermonPanes$Text;"⟩
def RX7 : String := "SermonPanes$Trail"
def TX7 : u_T := fun k => match k with
  | 0 => ("SermonPanes$Trail", "ahead", "[LSermonPanes$Nave;", true)
  | 1 => ("SermonPanes$Trail", "kinds", "[I", true)
  | 2 => ("SermonPanes$Trail", "first", "I", false)
  | _ => ("SermonPanes$Trail", "size", "I", false)
def tyX7 : Nat → FieldType := fun k => match k with
  | 0 => .array (.object "SermonPanes$Nave")
  | 1 => .array .int
  | 2 => .int
  | _ => .int
abbrev wsX70 : List Cond := u_ws RX7 TX7 4
theorem nmX7 : ∀ a, a < 4 → ∀ b, b < 4 → a ≠ b → (TX7 a).2.1 ≠ (TX7 b).2.1 := by decide +kernel
theorem tyX7_ok : ∀ k, k < 4 → parseFieldDescriptor (TX7 k).2.2.1 = some (tyX7 k) := by decide +kernel
abbrev cX7_init : ByteArray := prog_9_method_1_code
def yX7_init : MethodName := ⟨RX7, "<init>", "()V"⟩
abbrev cX7_clear : ByteArray := prog_9_method_2_code
def yX7_clear : MethodName := ⟨RX7, "clear", "()V"⟩
abbrev cX7_hold : ByteArray := prog_9_method_3_code
def yX7_hold : MethodName := ⟨RX7, "hold", "(LSermonPanes$Nave;)V"⟩
abbrev cX7_keep : ByteArray := prog_9_method_4_code
def yX7_keep : MethodName := ⟨RX7, "keep", "(I)V"⟩
abbrev cX7_takeLatest : ByteArray := prog_9_method_5_code
def yX7_takeLatest : MethodName := ⟨RX7, "takeLatest", "(LSermonPanes$Nave;)I"⟩
abbrev cX7_copyFrom : ByteArray := prog_9_method_6_code
def yX7_copyFrom : MethodName := ⟨RX7, "copyFrom", "(LSermonPanes$Trail;)V"⟩
def RX8 : String := "SermonPanes"
def TX8 : u_T := fun k => match k with
  | 0 => ("SermonPanes", "sums", "LSermonPanes$Sums;", true)
  | 1 => ("SermonPanes", "church", "LSermonPanes$Church;", true)
  | 2 => ("SermonPanes", "yearly", "LSermonPanes$Church;", true)
  | 3 => ("SermonPanes", "images", "[LSermonPanes$Church;", true)
  | 4 => ("SermonPanes", "imageKept", "[Z", true)
  | 5 => ("SermonPanes", "trail", "LSermonPanes$Trail;", true)
  | 6 => ("SermonPanes", "runner", "LSermonPanes$Runner;", true)
  | 7 => ("SermonPanes", "paper", "LSermonPanes$Paper;", true)
  | 8 => ("SermonPanes", "tape", "[I", true)
  | 9 => ("SermonPanes", "reader", "LSermonPanes$Reader;", true)
  | 10 => ("SermonPanes", "refused", "[I", true)
  | 11 => ("SermonPanes", "tapeLength", "I", false)
  | 12 => ("SermonPanes", "leadCount", "I", false)
  | 13 => ("SermonPanes", "latestRefusal", "I", false)
  | _ => ("SermonPanes", "yearsKept", "Z", false)
def tyX8 : Nat → FieldType := fun k => match k with
  | 0 => .object "SermonPanes$Sums"
  | 1 => .object "SermonPanes$Church"
  | 2 => .object "SermonPanes$Church"
  | 3 => .array (.object "SermonPanes$Church")
  | 4 => .array .boolean
  | 5 => .object "SermonPanes$Trail"
  | 6 => .object "SermonPanes$Runner"
  | 7 => .object "SermonPanes$Paper"
  | 8 => .array .int
  | 9 => .object "SermonPanes$Reader"
  | 10 => .array .int
  | 11 => .int
  | 12 => .int
  | 13 => .int
  | _ => .boolean
abbrev wsX80 : List Cond := u_ws RX8 TX8 15
theorem nmX8 : ∀ a, a < 15 → ∀ b, b < 15 → a ≠ b → (TX8 a).2.1 ≠ (TX8 b).2.1 := by decide +kernel
theorem tyX8_ok : ∀ k, k < 15 → parseFieldDescriptor (TX8 k).2.2.1 = some (tyX8 k) := by decide +kernel
abbrev cX8_init : ByteArray := prog_1_method_1_code
def yX8_init : MethodName := ⟨RX8, "<init>", "()V"⟩
abbrev cX8_word : ByteArray := prog_1_method_2_code
def yX8_word : MethodName := ⟨RX8, "word", "(II)I"⟩
abbrev cX8_of : ByteArray := prog_1_method_3_code
def yX8_of : MethodName := ⟨RX8, "of", "(II)I"⟩
abbrev cX8_at : ByteArray := prog_1_method_4_code
def yX8_at : MethodName := ⟨RX8, "at", "(II)I"⟩
abbrev cX8_listener : ByteArray := prog_1_method_5_code
def yX8_listener : MethodName := ⟨RX8, "listener", "(II)I"⟩
abbrev cX8_has : ByteArray := prog_1_method_6_code
def yX8_has : MethodName := ⟨RX8, "has", "(II)I"⟩
abbrev cX8_light : ByteArray := prog_1_method_7_code
def yX8_light : MethodName := ⟨RX8, "light", "(II)I"⟩
abbrev cX8_terms : ByteArray := prog_1_method_8_code
def yX8_terms : MethodName := ⟨RX8, "terms", "(II)I"⟩
abbrev cX8_feed : ByteArray := prog_1_method_9_code
def yX8_feed : MethodName := ⟨RX8, "feed", "(IIIII)I"⟩
abbrev cX8_end : ByteArray := prog_1_method_10_code
def yX8_end : MethodName := ⟨RX8, "end", "(I)I"⟩
abbrev cX8_row : ByteArray := prog_1_method_11_code
def yX8_row : MethodName := ⟨RX8, "row", "()I"⟩
abbrev cX8_leads : ByteArray := prog_1_method_12_code
def yX8_leads : MethodName := ⟨RX8, "leads", "()I"⟩
abbrev cX8_law : ByteArray := prog_1_method_13_code
def yX8_law : MethodName := ⟨RX8, "law", "()I"⟩
abbrev cX8_orders : ByteArray := prog_1_method_14_code
def yX8_orders : MethodName := ⟨RX8, "orders", "()I"⟩
abbrev cX8_fault : ByteArray := prog_1_method_15_code
def yX8_fault : MethodName := ⟨RX8, "fault", "()I"⟩
abbrev cX8_stopped : ByteArray := prog_1_method_16_code
def yX8_stopped : MethodName := ⟨RX8, "stopped", "()I"⟩
abbrev cX8_force : ByteArray := prog_1_method_17_code
def yX8_force : MethodName := ⟨RX8, "force", "(I)I"⟩
abbrev cX8_preach : ByteArray := prog_1_method_18_code
def yX8_preach : MethodName := ⟨RX8, "preach", "(I)I"⟩
abbrev cX8_scrape : ByteArray := prog_1_method_19_code
def yX8_scrape : MethodName := ⟨RX8, "scrape", "(II)I"⟩
abbrev cX8_walk : ByteArray := prog_1_method_20_code
def yX8_walk : MethodName := ⟨RX8, "walk", "(I)I"⟩
abbrev cX8_sit : ByteArray := prog_1_method_21_code
def yX8_sit : MethodName := ⟨RX8, "sit", "(II)I"⟩
abbrev cX8_pass : ByteArray := prog_1_method_22_code
def yX8_pass : MethodName := ⟨RX8, "pass", "()I"⟩
abbrev cX8_undo : ByteArray := prog_1_method_23_code
def yX8_undo : MethodName := ⟨RX8, "undo", "()I"⟩
abbrev cX8_sermon : ByteArray := prog_1_method_24_code
def yX8_sermon : MethodName := ⟨RX8, "sermon", "(IIIII)I"⟩
abbrev cX8_told : ByteArray := prog_1_method_25_code
def yX8_told : MethodName := ⟨RX8, "told", "(III)I"⟩
abbrev cX8_forget : ByteArray := prog_1_method_26_code
def yX8_forget : MethodName := ⟨RX8, "forget", "()I"⟩
abbrev cX8_preached : ByteArray := prog_1_method_27_code
def yX8_preached : MethodName := ⟨RX8, "preached", "(I)I"⟩
abbrev cX8_look : ByteArray := prog_1_method_28_code
def yX8_look : MethodName := ⟨RX8, "look", "(I)I"⟩
abbrev cX8_seated : ByteArray := prog_1_method_29_code
def yX8_seated : MethodName := ⟨RX8, "seated", "(I)I"⟩
abbrev cX8_cleared : ByteArray := prog_1_method_30_code
def yX8_cleared : MethodName := ⟨RX8, "cleared", "(I)I"⟩
abbrev cX8_apart : ByteArray := prog_1_method_31_code
def yX8_apart : MethodName := ⟨RX8, "apart", "(I)I"⟩
abbrev cX8_place : ByteArray := prog_1_method_32_code
def yX8_place : MethodName := ⟨RX8, "place", "(II)I"⟩
abbrev cX8_way : ByteArray := prog_1_method_33_code
def yX8_way : MethodName := ⟨RX8, "way", "(II)I"⟩
abbrev cX8_later : ByteArray := prog_1_method_34_code
def yX8_later : MethodName := ⟨RX8, "later", "(II)I"⟩
abbrev cX8_blackened : ByteArray := prog_1_method_35_code
def yX8_blackened : MethodName := ⟨RX8, "blackened", "(I)I"⟩
abbrev cX8_few : ByteArray := prog_1_method_36_code
def yX8_few : MethodName := ⟨RX8, "few", "(II)J"⟩
abbrev cX8_years : ByteArray := prog_1_method_37_code
def yX8_years : MethodName := ⟨RX8, "years", "(II)I"⟩
abbrev cX8_drawn : ByteArray := prog_1_method_38_code
def yX8_drawn : MethodName := ⟨RX8, "drawn", "(II)I"⟩
abbrev cX8_image : ByteArray := prog_1_method_39_code
def yX8_image : MethodName := ⟨RX8, "image", "(I)I"⟩
abbrev cX8_back : ByteArray := prog_1_method_40_code
def yX8_back : MethodName := ⟨RX8, "back", "(I)I"⟩
abbrev cX8_count : ByteArray := prog_1_method_41_code
def yX8_count : MethodName := ⟨RX8, "count", "(I)I"⟩
abbrev cX8_status : ByteArray := prog_1_method_42_code
def yX8_status : MethodName := ⟨RX8, "status", "()I"⟩
abbrev cX8_refuse : ByteArray := prog_1_method_43_code
def yX8_refuse : MethodName := ⟨RX8, "refuse", "(I)I"⟩
abbrev cX8_accept : ByteArray := prog_1_method_44_code
def yX8_accept : MethodName := ⟨RX8, "accept", "(I)I"⟩
abbrev cX8_settle : ByteArray := prog_1_method_45_code
def yX8_settle : MethodName := ⟨RX8, "settle", "(II)I"⟩
abbrev cX8_append : ByteArray := prog_1_method_46_code
def yX8_append : MethodName := ⟨RX8, "append", "(I)V"⟩
abbrev cX8_takeTape : ByteArray := prog_1_method_47_code
def yX8_takeTape : MethodName := ⟨RX8, "takeTape", "()I"⟩
abbrev cX8_tellPane : ByteArray := prog_1_method_48_code
def yX8_tellPane : MethodName := ⟨RX8, "tellPane", "(I)Z"⟩
abbrev cX8_highestTerm : ByteArray := prog_1_method_49_code
def yX8_highestTerm : MethodName := ⟨RX8, "highestTerm", "(I)I"⟩
abbrev cX8_within : ByteArray := prog_1_method_50_code
def yX8_within : MethodName := ⟨RX8, "within", "(III)Z"⟩
abbrev cX8_isPane : ByteArray := prog_1_method_51_code
def yX8_isPane : MethodName := ⟨RX8, "isPane", "(I)Z"⟩
abbrev cX8_isHue : ByteArray := prog_1_method_52_code
def yX8_isHue : MethodName := ⟨RX8, "isHue", "(I)Z"⟩
abbrev cX8_isSeat : ByteArray := prog_1_method_53_code
def yX8_isSeat : MethodName := ⟨RX8, "isSeat", "(I)Z"⟩
abbrev cX8_isAmount : ByteArray := prog_1_method_54_code
def yX8_isAmount : MethodName := ⟨RX8, "isAmount", "(I)Z"⟩
abbrev cX8_nearest : ByteArray := prog_1_method_55_code
def yX8_nearest : MethodName := ⟨RX8, "nearest", "(III)I"⟩
abbrev cX8_distance : ByteArray := prog_1_method_56_code
def yX8_distance : MethodName := ⟨RX8, "distance", "(II)I"⟩
def RX9 : String := "SermonPanesModel"
def TX9 : u_T := fun k => match k with
  | 0 => ("SermonPanesModel", "thrown", "I", false)
  | 1 => ("SermonPanesModel", "status", "I", false)
  | 2 => ("SermonPanesModel", "refusals", "[I", true)
  | 3 => ("SermonPanesModel", "row", "[I", true)
  | 4 => ("SermonPanesModel", "images", "[I", true)
  | 5 => ("SermonPanesModel", "isKept", "[Z", true)
  | 6 => ("SermonPanesModel", "undos", "[I", true)
  | 7 => ("SermonPanesModel", "sorts", "[I", true)
  | 8 => ("SermonPanesModel", "nUndo", "I", false)
  | 9 => ("SermonPanesModel", "undosBefore", "[I", true)
  | 10 => ("SermonPanesModel", "sortsBefore", "[I", true)
  | 11 => ("SermonPanesModel", "leads", "I", false)
  | 12 => ("SermonPanesModel", "tape", "[I", true)
  | 13 => ("SermonPanesModel", "taped", "I", false)
  | 14 => ("SermonPanesModel", "from", "I", false)
  | 15 => ("SermonPanesModel", "to", "I", false)
  | 16 => ("SermonPanesModel", "sort", "I", false)
  | 17 => ("SermonPanesModel", "worth", "J", false)
  | 18 => ("SermonPanesModel", "fault", "I", false)
  | 19 => ("SermonPanesModel", "bad", "Z", false)
  | 20 => ("SermonPanesModel", "ordered", "Z", false)
  | 21 => ("SermonPanesModel", "nClauses", "I", false)
  | 22 => ("SermonPanesModel", "nClause", "[I", true)
  | 23 => ("SermonPanesModel", "nCode", "I", false)
  | 24 => ("SermonPanesModel", "nOp", "[I", true)
  | 25 => ("SermonPanesModel", "nArg", "[I", true)
  | 26 => ("SermonPanesModel", "nLeaves", "I", false)
  | 27 => ("SermonPanesModel", "pile", "[I", true)
  | 28 => ("SermonPanesModel", "pileAt", "[I", true)
  | 29 => ("SermonPanesModel", "piled", "I", false)
  | 30 => ("SermonPanesModel", "opened", "I", false)
  | 31 => ("SermonPanesModel", "words", "[J", true)
  | 32 => ("SermonPanesModel", "orderWords", "[J", true)
  | 33 => ("SermonPanesModel", "heads", "[J", true)
  | 34 => ("SermonPanesModel", "law", "I", false)
  | 35 => ("SermonPanesModel", "set", "[J", true)
  | 36 => ("SermonPanesModel", "now", "[J", true)
  | 37 => ("SermonPanesModel", "rest", "[J", true)
  | 38 => ("SermonPanesModel", "broken", "Z", false)
  | 39 => ("SermonPanesModel", "value", "J", false)
  | 40 => ("SermonPanesModel", "sum", "J", false)
  | 41 => ("SermonPanesModel", "stain", "[I", true)
  | 42 => ("SermonPanesModel", "by", "[I", true)
  | 43 => ("SermonPanesModel", "fewest", "[I", true)
  | 44 => ("SermonPanesModel", "wants", "[I", true)
  | 45 => ("SermonPanesModel", "all", "[I", true)
  | 46 => ("SermonPanesModel", "alike", "[I", true)
  | 47 => ("SermonPanesModel", "does", "[I", true)
  | 48 => ("SermonPanesModel", "tried", "[I", true)
  | 49 => ("SermonPanesModel", "bestRow", "[I", true)
  | 50 => ("SermonPanesModel", "mustHit", "[I", true)
  | 51 => ("SermonPanesModel", "left", "[I", true)
  | 52 => ("SermonPanesModel", "parts", "[J", true)
  | 53 => ("SermonPanesModel", "acts", "[J", true)
  | 54 => ("SermonPanesModel", "nOrder", "[I", true)
  | 55 => ("SermonPanesModel", "done", "I", false)
  | 56 => ("SermonPanesModel", "latest", "I", false)
  | 57 => ("SermonPanesModel", "stopped", "I", false)
  | 58 => ("SermonPanesModel", "off", "Z", false)
  | 59 => ("SermonPanesModel", "state", "J", false)
  | 60 => ("SermonPanesModel", "drawn", "[I", true)
  | _ => ("SermonPanesModel", "drawnListeners", "I", false)
def tyX9 : Nat → FieldType := fun k => match k with
  | 0 => .int
  | 1 => .int
  | 2 => .array .int
  | 3 => .array .int
  | 4 => .array .int
  | 5 => .array .boolean
  | 6 => .array .int
  | 7 => .array .int
  | 8 => .int
  | 9 => .array .int
  | 10 => .array .int
  | 11 => .int
  | 12 => .array .int
  | 13 => .int
  | 14 => .int
  | 15 => .int
  | 16 => .int
  | 17 => .long
  | 18 => .int
  | 19 => .boolean
  | 20 => .boolean
  | 21 => .int
  | 22 => .array .int
  | 23 => .int
  | 24 => .array .int
  | 25 => .array .int
  | 26 => .int
  | 27 => .array .int
  | 28 => .array .int
  | 29 => .int
  | 30 => .int
  | 31 => .array .long
  | 32 => .array .long
  | 33 => .array .long
  | 34 => .int
  | 35 => .array .long
  | 36 => .array .long
  | 37 => .array .long
  | 38 => .boolean
  | 39 => .long
  | 40 => .long
  | 41 => .array .int
  | 42 => .array .int
  | 43 => .array .int
  | 44 => .array .int
  | 45 => .array .int
  | 46 => .array .int
  | 47 => .array .int
  | 48 => .array .int
  | 49 => .array .int
  | 50 => .array .int
  | 51 => .array .int
  | 52 => .array .long
  | 53 => .array .long
  | 54 => .array .int
  | 55 => .int
  | 56 => .int
  | 57 => .int
  | 58 => .boolean
  | 59 => .long
  | 60 => .array .int
  | _ => .int
abbrev wsX90 : List Cond := u_ws RX9 TX9 62
theorem nmX9 : ∀ a, a < 62 → ∀ b, b < 62 → a ≠ b → (TX9 a).2.1 ≠ (TX9 b).2.1 := by decide +kernel
theorem tyX9_ok : ∀ k, k < 62 → parseFieldDescriptor (TX9 k).2.2.1 = some (tyX9 k) := by decide +kernel
abbrev cX9_init : ByteArray := prog_11_method_1_code
def yX9_init : MethodName := ⟨RX9, "<init>", "()V"⟩
abbrev cX9_in : ByteArray := prog_11_method_3_code
def yX9_in : MethodName := ⟨RX9, "in", "(JJJ)Z"⟩
abbrev cX9_is : ByteArray := prog_11_method_4_code
def yX9_is : MethodName := ⟨RX9, "is", "(II)Z"⟩
abbrev cX9_ones : ByteArray := prog_11_method_5_code
def yX9_ones : MethodName := ⟨RX9, "ones", "(I)I"⟩
abbrev cX9_within : ByteArray := prog_11_method_6_code
def yX9_within : MethodName := ⟨RX9, "within", "(JII)I"⟩
abbrev cX9_tell : ByteArray := prog_11_method_7_code
def yX9_tell : MethodName := ⟨RX9, "tell", "(I)I"⟩
abbrev cX9_change : ByteArray := prog_11_method_8_code
def yX9_change : MethodName := ⟨RX9, "change", "(II)I"⟩
abbrev cX9_settled : ByteArray := prog_11_method_9_code
def yX9_settled : MethodName := ⟨RX9, "settled", "(I)I"⟩
abbrev cX9_keepAll : ByteArray := prog_11_method_10_code
def yX9_keepAll : MethodName := ⟨RX9, "keepAll", "(I)V"⟩
abbrev cX9_putBack : ByteArray := prog_11_method_11_code
def yX9_putBack : MethodName := ⟨RX9, "putBack", "(I)V"⟩
abbrev cX9_remember : ByteArray := prog_11_method_12_code
def yX9_remember : MethodName := ⟨RX9, "remember", "(I)V"⟩
abbrev cX9_undo : ByteArray := prog_11_method_13_code
def yX9_undo : MethodName := ⟨RX9, "undo", "()I"⟩
abbrev cX9_image : ByteArray := prog_11_method_14_code
def yX9_image : MethodName := ⟨RX9, "image", "(I)I"⟩
abbrev cX9_back : ByteArray := prog_11_method_15_code
def yX9_back : MethodName := ⟨RX9, "back", "(I)I"⟩
abbrev cX9_isWord1 : ByteArray := prog_11_method_16_code
def yX9_isWord1 : MethodName := ⟨RX9, "isWord1", "(I)Z"⟩
abbrev cX9_isListener : ByteArray := prog_11_method_17_code
def yX9_isListener : MethodName := ⟨RX9, "isListener", "(I)Z"⟩
abbrev cX9_isPane : ByteArray := prog_11_method_18_code
def yX9_isPane : MethodName := ⟨RX9, "isPane", "(I)Z"⟩
abbrev cX9_isSeat : ByteArray := prog_11_method_19_code
def yX9_isSeat : MethodName := ⟨RX9, "isSeat", "(I)Z"⟩
abbrev cX9_isHue : ByteArray := prog_11_method_20_code
def yX9_isHue : MethodName := ⟨RX9, "isHue", "(I)Z"⟩
abbrev cX9_apartOf : ByteArray := prog_11_method_21_code
def yX9_apartOf : MethodName := ⟨RX9, "apartOf", "(II)I"⟩
abbrev cX9_sumOf1 : ByteArray := prog_11_method_22_code
def yX9_sumOf1 : MethodName := ⟨RX9, "sumOf1", "(I)I"⟩
abbrev cX9_onSeat : ByteArray := prog_11_method_23_code
def yX9_onSeat : MethodName := ⟨RX9, "onSeat", "(I)I"⟩
abbrev cX9_word : ByteArray := prog_11_method_24_code
def yX9_word : MethodName := ⟨RX9, "word", "(II)I"⟩
abbrev cX9_of : ByteArray := prog_11_method_25_code
def yX9_of : MethodName := ⟨RX9, "of", "(II)I"⟩
abbrev cX9_at : ByteArray := prog_11_method_26_code
def yX9_at : MethodName := ⟨RX9, "at", "(II)I"⟩
abbrev cX9_listener : ByteArray := prog_11_method_27_code
def yX9_listener : MethodName := ⟨RX9, "listener", "(II)I"⟩
abbrev cX9_has : ByteArray := prog_11_method_28_code
def yX9_has : MethodName := ⟨RX9, "has", "(II)I"⟩
abbrev cX9_light : ByteArray := prog_11_method_29_code
def yX9_light : MethodName := ⟨RX9, "light", "(II)I"⟩
abbrev cX9_terms : ByteArray := prog_11_method_30_code
def yX9_terms : MethodName := ⟨RX9, "terms", "(II)I"⟩
abbrev cX9_row : ByteArray := prog_11_method_31_code
def yX9_row : MethodName := ⟨RX9, "row", "()I"⟩
abbrev cX9_leads : ByteArray := prog_11_method_32_code
def yX9_leads : MethodName := ⟨RX9, "leads", "()I"⟩
abbrev cX9_four : ByteArray := prog_11_method_33_code
def yX9_four : MethodName := ⟨RX9, "four", "(I)V"⟩
abbrev cX9_feed : ByteArray := prog_11_method_34_code
def yX9_feed : MethodName := ⟨RX9, "feed", "(IIIII)I"⟩
abbrev cX9_end : ByteArray := prog_11_method_35_code
def yX9_end : MethodName := ⟨RX9, "end", "(I)I"⟩
abbrev cX9_isSmall : ByteArray := prog_11_method_36_code
def yX9_isSmall : MethodName := ⟨RX9, "isSmall", "(I)Z"⟩
abbrev cX9_isDigit : ByteArray := prog_11_method_37_code
def yX9_isDigit : MethodName := ⟨RX9, "isDigit", "(I)Z"⟩
abbrev cX9_begin : ByteArray := prog_11_method_38_code
def yX9_begin : MethodName := ⟨RX9, "begin", "()V"⟩
abbrev cX9_next : ByteArray := prog_11_method_39_code
def yX9_next : MethodName := ⟨RX9, "next", "()V"⟩
abbrev cX9_isWord : ByteArray := prog_11_method_40_code
def yX9_isWord : MethodName := ⟨RX9, "isWord", "(J)Z"⟩
abbrev cX9_isSign : ByteArray := prog_11_method_41_code
def yX9_isSign : MethodName := ⟨RX9, "isSign", "(I)Z"⟩
abbrev cX9_must : ByteArray := prog_11_method_42_code
def yX9_must : MethodName := ⟨RX9, "must", "(Z)V"⟩
abbrev cX9_number : ByteArray := prog_11_method_43_code
def yX9_number : MethodName := ⟨RX9, "number", "(JJ)I"⟩
abbrev cX9_fault : ByteArray := prog_11_method_44_code
def yX9_fault : MethodName := ⟨RX9, "fault", "()I"⟩
abbrev cX9_emit : ByteArray := prog_11_method_45_code
def yX9_emit : MethodName := ⟨RX9, "emit", "(II)V"⟩
abbrev cX9_push : ByteArray := prog_11_method_46_code
def yX9_push : MethodName := ⟨RX9, "push", "(II)V"⟩
abbrev cX9_binds : ByteArray := prog_11_method_47_code
def yX9_binds : MethodName := ⟨RX9, "binds", "(I)I"⟩
abbrev cX9_settle : ByteArray := prog_11_method_48_code
def yX9_settle : MethodName := ⟨RX9, "settle", "(I)V"⟩
abbrev cX9_inner : ByteArray := prog_11_method_49_code
def yX9_inner : MethodName := ⟨RX9, "inner", "()I"⟩
abbrev cX9_isCompared : ByteArray := prog_11_method_50_code
def yX9_isCompared : MethodName := ⟨RX9, "isCompared", "()Z"⟩
abbrev cX9_partAt : ByteArray := prog_11_method_51_code
def yX9_partAt : MethodName := ⟨RX9, "partAt", "()I"⟩
abbrev cX9_orderPartAt : ByteArray := prog_11_method_52_code
def yX9_orderPartAt : MethodName := ⟨RX9, "orderPartAt", "()I"⟩
abbrev cX9_openBracket : ByteArray := prog_11_method_53_code
def yX9_openBracket : MethodName := ⟨RX9, "openBracket", "(I)V"⟩
abbrev cX9_leaf : ByteArray := prog_11_method_54_code
def yX9_leaf : MethodName := ⟨RX9, "leaf", "(ZII)V"⟩
abbrev cX9_readPart : ByteArray := prog_11_method_55_code
def yX9_readPart : MethodName := ⟨RX9, "readPart", "()I"⟩
abbrev cX9_readPlain : ByteArray := prog_11_method_56_code
def yX9_readPlain : MethodName := ⟨RX9, "readPlain", "()I"⟩
abbrev cX9_behindSum : ByteArray := prog_11_method_57_code
def yX9_behindSum : MethodName := ⟨RX9, "behindSum", "(Z)I"⟩
abbrev cX9_behindTest : ByteArray := prog_11_method_58_code
def yX9_behindTest : MethodName := ⟨RX9, "behindTest", "()I"⟩
abbrev cX9_readExpression : ByteArray := prog_11_method_59_code
def yX9_readExpression : MethodName := ⟨RX9, "readExpression", "(Z)V"⟩
abbrev cX9_beginText : ByteArray := prog_11_method_60_code
def yX9_beginText : MethodName := ⟨RX9, "beginText", "(Z)V"⟩
abbrev cX9_endText : ByteArray := prog_11_method_61_code
def yX9_endText : MethodName := ⟨RX9, "endText", "()V"⟩
abbrev cX9_readLaw : ByteArray := prog_11_method_62_code
def yX9_readLaw : MethodName := ⟨RX9, "readLaw", "()V"⟩
abbrev cX9_law : ByteArray := prog_11_method_63_code
def yX9_law : MethodName := ⟨RX9, "law", "()I"⟩
abbrev cX9_isLaw : ByteArray := prog_11_method_64_code
def yX9_isLaw : MethodName := ⟨RX9, "isLaw", "(I)Z"⟩
abbrev cX9_force : ByteArray := prog_11_method_65_code
def yX9_force : MethodName := ⟨RX9, "force", "(I)I"⟩
abbrev cX9_reckon : ByteArray := prog_11_method_66_code
def yX9_reckon : MethodName := ⟨RX9, "reckon", "(IJJ)J"⟩
abbrev cX9_reckonAll : ByteArray := prog_11_method_67_code
def yX9_reckonAll : MethodName := ⟨RX9, "reckonAll", "(II)V"⟩
abbrev cX9_isSo : ByteArray := prog_11_method_68_code
def yX9_isSo : MethodName := ⟨RX9, "isSo", "(I)Z"⟩
abbrev cX9_setNone : ByteArray := prog_11_method_69_code
def yX9_setNone : MethodName := ⟨RX9, "setNone", "()V"⟩
abbrev cX9_setWord : ByteArray := prog_11_method_70_code
def yX9_setWord : MethodName := ⟨RX9, "setWord", "(I)V"⟩
abbrev cX9_setPane : ByteArray := prog_11_method_71_code
def yX9_setPane : MethodName := ⟨RX9, "setPane", "(I)V"⟩
abbrev cX9_tells : ByteArray := prog_11_method_72_code
def yX9_tells : MethodName := ⟨RX9, "tells", "(IJ)J"⟩
abbrev cX9_stainsOf : ByteArray := prog_11_method_73_code
def yX9_stainsOf : MethodName := ⟨RX9, "stainsOf", "(II)I"⟩
abbrev cX9_isBarred : ByteArray := prog_11_method_74_code
def yX9_isBarred : MethodName := ⟨RX9, "isBarred", "(I)Z"⟩
abbrev cX9_blacksOf : ByteArray := prog_11_method_75_code
def yX9_blacksOf : MethodName := ⟨RX9, "blacksOf", "(I)I"⟩
abbrev cX9_isBlack : ByteArray := prog_11_method_76_code
def yX9_isBlack : MethodName := ⟨RX9, "isBlack", "(I)Z"⟩
abbrev cX9_paneOf : ByteArray := prog_11_method_77_code
def yX9_paneOf : MethodName := ⟨RX9, "paneOf", "(I)I"⟩
abbrev cX9_lightOf : ByteArray := prog_11_method_78_code
def yX9_lightOf : MethodName := ⟨RX9, "lightOf", "(II)I"⟩
abbrev cX9_doesOf : ByteArray := prog_11_method_79_code
def yX9_doesOf : MethodName := ⟨RX9, "doesOf", "(II)I"⟩
abbrev cX9_blackOnes : ByteArray := prog_11_method_80_code
def yX9_blackOnes : MethodName := ⟨RX9, "blackOnes", "()I"⟩
abbrev cX9_preachIt : ByteArray := prog_11_method_81_code
def yX9_preachIt : MethodName := ⟨RX9, "preachIt", "(I)I"⟩
abbrev cX9_preachNow : ByteArray := prog_11_method_82_code
def yX9_preachNow : MethodName := ⟨RX9, "preachNow", "(I)I"⟩
abbrev cX9_preach : ByteArray := prog_11_method_83_code
def yX9_preach : MethodName := ⟨RX9, "preach", "(I)I"⟩
abbrev cX9_scrapeNow : ByteArray := prog_11_method_84_code
def yX9_scrapeNow : MethodName := ⟨RX9, "scrapeNow", "(II)I"⟩
abbrev cX9_scrape : ByteArray := prog_11_method_85_code
def yX9_scrape : MethodName := ⟨RX9, "scrape", "(II)I"⟩
abbrev cX9_walkNow : ByteArray := prog_11_method_86_code
def yX9_walkNow : MethodName := ⟨RX9, "walkNow", "(I)I"⟩
abbrev cX9_walk : ByteArray := prog_11_method_87_code
def yX9_walk : MethodName := ⟨RX9, "walk", "(I)I"⟩
abbrev cX9_sitNow : ByteArray := prog_11_method_88_code
def yX9_sitNow : MethodName := ⟨RX9, "sitNow", "(II)I"⟩
abbrev cX9_sit : ByteArray := prog_11_method_89_code
def yX9_sit : MethodName := ⟨RX9, "sit", "(II)I"⟩
abbrev cX9_passIt : ByteArray := prog_11_method_90_code
def yX9_passIt : MethodName := ⟨RX9, "passIt", "()V"⟩
abbrev cX9_passNow : ByteArray := prog_11_method_91_code
def yX9_passNow : MethodName := ⟨RX9, "passNow", "()I"⟩
abbrev cX9_pass : ByteArray := prog_11_method_92_code
def yX9_pass : MethodName := ⟨RX9, "pass", "()I"⟩
abbrev cX9_fewestFrom : ByteArray := prog_11_method_93_code
def yX9_fewestFrom : MethodName := ⟨RX9, "fewestFrom", "(III)I"⟩
abbrev cX9_layFewest : ByteArray := prog_11_method_94_code
def yX9_layFewest : MethodName := ⟨RX9, "layFewest", "(I)V"⟩
abbrev cX9_allFrom : ByteArray := prog_11_method_95_code
def yX9_allFrom : MethodName := ⟨RX9, "allFrom", "(I)I"⟩
abbrev cX9_canCome : ByteArray := prog_11_method_96_code
def yX9_canCome : MethodName := ⟨RX9, "canCome", "(III)Z"⟩
abbrev cX9_sermon : ByteArray := prog_11_method_97_code
def yX9_sermon : MethodName := ⟨RX9, "sermon", "(IIIII)I"⟩
abbrev cX9_told : ByteArray := prog_11_method_98_code
def yX9_told : MethodName := ⟨RX9, "told", "(III)I"⟩
abbrev cX9_forget : ByteArray := prog_11_method_99_code
def yX9_forget : MethodName := ⟨RX9, "forget", "()I"⟩
abbrev cX9_layAll : ByteArray := prog_11_method_100_code
def yX9_layAll : MethodName := ⟨RX9, "layAll", "()V"⟩
abbrev cX9_givenBy : ByteArray := prog_11_method_101_code
def yX9_givenBy : MethodName := ⟨RX9, "givenBy", "(III)I"⟩
abbrev cX9_canBe : ByteArray := prog_11_method_102_code
def yX9_canBe : MethodName := ⟨RX9, "canBe", "(I)Z"⟩
abbrev cX9_preached : ByteArray := prog_11_method_103_code
def yX9_preached : MethodName := ⟨RX9, "preached", "(I)I"⟩
abbrev cX9_mostAlike : ByteArray := prog_11_method_104_code
def yX9_mostAlike : MethodName := ⟨RX9, "mostAlike", "(I)I"⟩
abbrev cX9_look : ByteArray := prog_11_method_105_code
def yX9_look : MethodName := ⟨RX9, "look", "(I)I"⟩
abbrev cX9_isNew : ByteArray := prog_11_method_106_code
def yX9_isNew : MethodName := ⟨RX9, "isNew", "(I)Z"⟩
abbrev cX9_findSeated : ByteArray := prog_11_method_107_code
def yX9_findSeated : MethodName := ⟨RX9, "findSeated", "()I"⟩
abbrev cX9_seated : ByteArray := prog_11_method_108_code
def yX9_seated : MethodName := ⟨RX9, "seated", "(I)I"⟩
abbrev cX9_cleared : ByteArray := prog_11_method_109_code
def yX9_cleared : MethodName := ⟨RX9, "cleared", "(I)I"⟩
abbrev cX9_unlike : ByteArray := prog_11_method_110_code
def yX9_unlike : MethodName := ⟨RX9, "unlike", "(II)I"⟩
abbrev cX9_apart : ByteArray := prog_11_method_111_code
def yX9_apart : MethodName := ⟨RX9, "apart", "(I)I"⟩
abbrev cX9_place : ByteArray := prog_11_method_112_code
def yX9_place : MethodName := ⟨RX9, "place", "(II)I"⟩
abbrev cX9_nearer : ByteArray := prog_11_method_113_code
def yX9_nearer : MethodName := ⟨RX9, "nearer", "(III)I"⟩
abbrev cX9_leastOn : ByteArray := prog_11_method_114_code
def yX9_leastOn : MethodName := ⟨RX9, "leastOn", "(II)I"⟩
abbrev cX9_layWay : ByteArray := prog_11_method_115_code
def yX9_layWay : MethodName := ⟨RX9, "layWay", "(I)V"⟩
abbrev cX9_way : ByteArray := prog_11_method_116_code
def yX9_way : MethodName := ⟨RX9, "way", "(II)I"⟩
abbrev cX9_later : ByteArray := prog_11_method_117_code
def yX9_later : MethodName := ⟨RX9, "later", "(II)I"⟩
abbrev cX9_blackened : ByteArray := prog_11_method_118_code
def yX9_blackened : MethodName := ⟨RX9, "blackened", "(I)I"⟩
abbrev cX9_few : ByteArray := prog_11_method_119_code
def yX9_few : MethodName := ⟨RX9, "few", "(II)J"⟩
abbrev cX9_readSum : ByteArray := prog_11_method_120_code
def yX9_readSum : MethodName := ⟨RX9, "readSum", "(I)V"⟩
abbrev cX9_readOrder : ByteArray := prog_11_method_121_code
def yX9_readOrder : MethodName := ⟨RX9, "readOrder", "()V"⟩
abbrev cX9_sumOf : ByteArray := prog_11_method_122_code
def yX9_sumOf : MethodName := ⟨RX9, "sumOf", "(I)I"⟩
abbrev cX9_act : ByteArray := prog_11_method_123_code
def yX9_act : MethodName := ⟨RX9, "act", "(III)I"⟩
abbrev cX9_run : ByteArray := prog_11_method_124_code
def yX9_run : MethodName := ⟨RX9, "run", "(I)I"⟩
abbrev cX9_orders : ByteArray := prog_11_method_125_code
def yX9_orders : MethodName := ⟨RX9, "orders", "()I"⟩
abbrev cX9_giveBack : ByteArray := prog_11_method_126_code
def yX9_giveBack : MethodName := ⟨RX9, "giveBack", "(I)V"⟩
abbrev cX9_stopped : ByteArray := prog_11_method_127_code
def yX9_stopped : MethodName := ⟨RX9, "stopped", "()I"⟩
abbrev cX9_draw : ByteArray := prog_11_method_128_code
def yX9_draw : MethodName := ⟨RX9, "draw", "(I)I"⟩
abbrev cX9_years : ByteArray := prog_11_method_129_code
def yX9_years : MethodName := ⟨RX9, "years", "(II)I"⟩
abbrev cX9_drawn : ByteArray := prog_11_method_130_code
def yX9_drawn : MethodName := ⟨RX9, "drawn", "(II)I"⟩
abbrev cX9_count : ByteArray := prog_11_method_131_code
def yX9_count : MethodName := ⟨RX9, "count", "(I)I"⟩
abbrev cX9_status : ByteArray := prog_11_method_132_code
def yX9_status : MethodName := ⟨RX9, "status", "()I"⟩
def RJx145de : String := "java/io/Serializable"
def TJx145de : u_T := fun k => match k with
  | _ => ("", "", "", false)
def tyJx145de : Nat → FieldType := fun k => match k with
  | _ => .int
abbrev wsJx145de0 : List Cond := u_ws RJx145de TJx145de 0
theorem nmJx145de : ∀ a, a < 0 → ∀ b, b < 0 → a ≠ b → (TJx145de a).2.1 ≠ (TJx145de b).2.1 := by decide +kernel
theorem tyJx145de_ok : ∀ k, k < 0 → parseFieldDescriptor (TJx145de k).2.2.1 = some (tyJx145de k) := by decide +kernel
def RJx9f9b0 : String := "java/lang/CharSequence"
def TJx9f9b0 : u_T := fun k => match k with
  | _ => ("", "", "", false)
def tyJx9f9b0 : Nat → FieldType := fun k => match k with
  | _ => .int
abbrev wsJx9f9b00 : List Cond := u_ws RJx9f9b0 TJx9f9b0 0
theorem nmJx9f9b0 : ∀ a, a < 0 → ∀ b, b < 0 → a ≠ b → (TJx9f9b0 a).2.1 ≠ (TJx9f9b0 b).2.1 := by decide +kernel
theorem tyJx9f9b0_ok : ∀ k, k < 0 → parseFieldDescriptor (TJx9f9b0 k).2.2.1 = some (tyJx9f9b0 k) := by decide +kernel
def RJxb160c : String := "java/lang/Comparable"
def TJxb160c : u_T := fun k => match k with
  | _ => ("", "", "", false)
def tyJxb160c : Nat → FieldType := fun k => match k with
  | _ => .int
abbrev wsJxb160c0 : List Cond := u_ws RJxb160c TJxb160c 0
theorem nmJxb160c : ∀ a, a < 0 → ∀ b, b < 0 → a ≠ b → (TJxb160c a).2.1 ≠ (TJxb160c b).2.1 := by decide +kernel
theorem tyJxb160c_ok : ∀ k, k < 0 → parseFieldDescriptor (TJxb160c k).2.2.1 = some (tyJxb160c k) := by decide +kernel
def RJ6 : String := "java/lang/Integer"
def TJ6 : u_T := fun k => match k with
  | _ => ("", "", "", false)
def tyJ6 : Nat → FieldType := fun k => match k with
  | _ => .int
abbrev wsJ60 : List Cond := u_ws RJ6 TJ6 0
theorem nmJ6 : ∀ a, a < 0 → ∀ b, b < 0 → a ≠ b → (TJ6 a).2.1 ≠ (TJ6 b).2.1 := by decide +kernel
theorem tyJ6_ok : ∀ k, k < 0 → parseFieldDescriptor (TJ6 k).2.2.1 = some (tyJ6 k) := by decide +kernel
abbrev cJ6_bitCount_0f7a4 : ByteArray := prog_12_method_49_code
def yJ6_bitCount_0f7a4 : MethodName := ⟨RJ6, "bitCount", "(I)I"⟩
def RJ9 : String := "java/lang/Math"
def TJ9 : u_T := fun k => match k with
  | _ => ("", "", "", false)
def tyJ9 : Nat → FieldType := fun k => match k with
  | _ => .int
abbrev wsJ90 : List Cond := u_ws RJ9 TJ9 0
theorem nmJ9 : ∀ a, a < 0 → ∀ b, b < 0 → a ≠ b → (TJ9 a).2.1 ≠ (TJ9 b).2.1 := by decide +kernel
theorem tyJ9_ok : ∀ k, k < 0 → parseFieldDescriptor (TJ9 k).2.2.1 = some (tyJ9 k) := by decide +kernel
abbrev cJ9_abs_0f7a4 : ByteArray := prog_13_method_59_code
def yJ9_abs_0f7a4 : MethodName := ⟨RJ9, "abs", "(I)I"⟩
abbrev cJ9_max_7cf53 : ByteArray := prog_13_method_65_code
def yJ9_max_7cf53 : MethodName := ⟨RJ9, "max", "(II)I"⟩
abbrev cJ9_min_7cf53 : ByteArray := prog_13_method_69_code
def yJ9_min_7cf53 : MethodName := ⟨RJ9, "min", "(II)I"⟩
def RJ0 : String := "java/lang/String"
def TJ0 : u_T := fun k => match k with
  | _ => ("", "", "", false)
def tyJ0 : Nat → FieldType := fun k => match k with
  | _ => .int
abbrev wsJ00 : List Cond := u_ws RJ0 TJ0 0
theorem nmJ0 : ∀ a, a < 0 → ∀ b, b < 0 → a ≠ b → (TJ0 a).2.1 ≠ (TJ0 b).2.1 := by decide +kernel
theorem tyJ0_ok : ∀ k, k < 0 → parseFieldDescriptor (TJ0 k).2.2.1 = some (tyJ0 k) := by decide +kernel
abbrev cJ0_length_8abf5 : ByteArray := prog_14_method_54_code
def yJ0_length_8abf5 : MethodName := ⟨RJ0, "length", "()I"⟩
abbrev cJ0_charAt_5068e : ByteArray := prog_14_method_56_code
def yJ0_charAt_5068e : MethodName := ⟨RJ0, "charAt", "(I)C"⟩
abbrev cJ0_coder_7d493 : ByteArray := prog_14_method_152_code
def yJ0_coder_7d493 : MethodName := ⟨RJ0, "coder", "()B"⟩
abbrev cJ0_isLatin1_aae02 : ByteArray := prog_14_method_154_code
def yJ0_isLatin1_aae02 : MethodName := ⟨RJ0, "isLatin1", "()Z"⟩
abbrev cJ0_checkIndex_df160 : ByteArray := prog_14_method_155_code
def yJ0_checkIndex_df160 : MethodName := ⟨RJ0, "checkIndex", "(II)V"⟩
def RJ1 : String := "java/lang/StringLatin1"
def TJ1 : u_T := fun k => match k with
  | _ => ("", "", "", false)
def tyJ1 : Nat → FieldType := fun k => match k with
  | _ => .int
abbrev wsJ10 : List Cond := u_ws RJ1 TJ1 0
theorem nmJ1 : ∀ a, a < 0 → ∀ b, b < 0 → a ≠ b → (TJ1 a).2.1 ≠ (TJ1 b).2.1 := by decide +kernel
theorem tyJ1_ok : ∀ k, k < 0 → parseFieldDescriptor (TJ1 k).2.2.1 = some (tyJ1 k) := by decide +kernel
abbrev cJ1_charAt_3b067 : ByteArray := prog_15_method_2_code
def yJ1_charAt_3b067 : MethodName := ⟨RJ1, "charAt", "([BI)C"⟩
def RJ2 : String := "java/lang/StringUTF16"
def TJ2 : u_T := fun k => match k with
  | _ => ("", "", "", false)
def tyJ2 : Nat → FieldType := fun k => match k with
  | _ => .int
abbrev wsJ20 : List Cond := u_ws RJ2 TJ2 0
theorem nmJ2 : ∀ a, a < 0 → ∀ b, b < 0 → a ≠ b → (TJ2 a).2.1 ≠ (TJ2 b).2.1 := by decide +kernel
theorem tyJ2_ok : ∀ k, k < 0 → parseFieldDescriptor (TJ2 k).2.2.1 = some (tyJ2 k) := by decide +kernel
abbrev cJ2_getChar_3b067 : ByteArray := prog_16_method_5_code
def yJ2_getChar_3b067 : MethodName := ⟨RJ2, "getChar", "([BI)C"⟩
abbrev cJ2_length_9d52b : ByteArray := prog_16_method_6_code
def yJ2_length_9d52b : MethodName := ⟨RJ2, "length", "([B)I"⟩
abbrev cJ2_charAt_3b067 : ByteArray := prog_16_method_83_code
def yJ2_charAt_3b067 : MethodName := ⟨RJ2, "charAt", "([BI)C"⟩
abbrev cJ2_checkIndex_2214a : ByteArray := prog_16_method_91_code
def yJ2_checkIndex_2214a : MethodName := ⟨RJ2, "checkIndex", "(I[B)V"⟩
def RJ10 : String := "java/lang/System"
def TJ10 : u_T := fun k => match k with
  | _ => ("", "", "", false)
def tyJ10 : Nat → FieldType := fun k => match k with
  | _ => .int
abbrev wsJ100 : List Cond := u_ws RJ10 TJ10 0
theorem nmJ10 : ∀ a, a < 0 → ∀ b, b < 0 → a ≠ b → (TJ10 a).2.1 ≠ (TJ10 b).2.1 := by decide +kernel
theorem tyJ10_ok : ∀ k, k < 0 → parseFieldDescriptor (TJ10 k).2.2.1 = some (tyJ10 k) := by decide +kernel
def RJxfd54e : String := "java/lang/constant/Constable"
def TJxfd54e : u_T := fun k => match k with
  | _ => ("", "", "", false)
def tyJxfd54e : Nat → FieldType := fun k => match k with
  | _ => .int
abbrev wsJxfd54e0 : List Cond := u_ws RJxfd54e TJxfd54e 0
theorem nmJxfd54e : ∀ a, a < 0 → ∀ b, b < 0 → a ≠ b → (TJxfd54e a).2.1 ≠ (TJxfd54e b).2.1 := by decide +kernel
theorem tyJxfd54e_ok : ∀ k, k < 0 → parseFieldDescriptor (TJxfd54e k).2.2.1 = some (tyJxfd54e k) := by decide +kernel
def RJx3cf43 : String := "java/lang/constant/ConstantDesc"
def TJx3cf43 : u_T := fun k => match k with
  | _ => ("", "", "", false)
def tyJx3cf43 : Nat → FieldType := fun k => match k with
  | _ => .int
abbrev wsJx3cf430 : List Cond := u_ws RJx3cf43 TJx3cf43 0
theorem nmJx3cf43 : ∀ a, a < 0 → ∀ b, b < 0 → a ≠ b → (TJx3cf43 a).2.1 ≠ (TJx3cf43 b).2.1 := by decide +kernel
theorem tyJx3cf43_ok : ∀ k, k < 0 → parseFieldDescriptor (TJx3cf43 k).2.2.1 = some (tyJx3cf43 k) := by decide +kernel
def RJ7 : String := "java/util/Arrays"
def TJ7 : u_T := fun k => match k with
  | _ => ("", "", "", false)
def tyJ7 : Nat → FieldType := fun k => match k with
  | _ => .int
abbrev wsJ70 : List Cond := u_ws RJ7 TJ7 0
theorem nmJ7 : ∀ a, a < 0 → ∀ b, b < 0 → a ≠ b → (TJ7 a).2.1 ≠ (TJ7 b).2.1 := by decide +kernel
theorem tyJ7_ok : ∀ k, k < 0 → parseFieldDescriptor (TJ7 k).2.2.1 = some (tyJ7 k) := by decide +kernel
abbrev cJ7_fill_d0a16 : ByteArray := prog_18_method_101_code
def yJ7_fill_d0a16 : MethodName := ⟨RJ7, "fill", "([JJ)V"⟩
abbrev cJ7_fill_53178 : ByteArray := prog_18_method_103_code
def yJ7_fill_53178 : MethodName := ⟨RJ7, "fill", "([II)V"⟩
def RJ3 : String := "jdk/internal/util/Preconditions"
def TJ3 : u_T := fun k => match k with
  | _ => ("", "", "", false)
def tyJ3 : Nat → FieldType := fun k => match k with
  | _ => .int
abbrev wsJ30 : List Cond := u_ws RJ3 TJ3 0
theorem nmJ3 : ∀ a, a < 0 → ∀ b, b < 0 → a ≠ b → (TJ3 a).2.1 ≠ (TJ3 b).2.1 := by decide +kernel
theorem tyJ3_ok : ∀ k, k < 0 → parseFieldDescriptor (TJ3 k).2.2.1 = some (tyJ3 k) := by decide +kernel
abbrev cJ3_checkIndex_8e157 : ByteArray := prog_19_method_11_code
def yJ3_checkIndex_8e157 : MethodName := ⟨RJ3, "checkIndex", "(IILjava/util/function/BiFunction;)I"⟩
def RL : String := "SermonPanesLaw"
abbrev cL_law : ByteArray := code
def yL_law : MethodName := ⟨RL, "law", "([I)Z"⟩
abbrev vwCl : List vw_C := [(RX0, TX0, 15), (RX1, TX1, 5), (RX2, TX2, 19), (RX3, TX3, 10), (RX4, TX4, 9), (RX5, TX5, 1), (RX6, TX6, 6), (RX7, TX7, 4), (RX8, TX8, 15), (RX9, TX9, 62)]
/-! own tables: classes by number, methods, links -/
def px_cnL : List (Nat × String) := [(0, "SermonPanes$Church"), (1, "SermonPanes$Nave"), (2, "SermonPanes$Paper"), (3, "SermonPanes$Reader"), (4, "SermonPanes$Runner"), (5, "SermonPanes$Sums"), (6, "SermonPanes$Text"), (7, "SermonPanes$Trail"), (8, "SermonPanes"), (9, "SermonPanesModel"), (20, "java/lang/String"), (21, "java/lang/StringLatin1"), (22, "jdk/internal/util/Preconditions"), (23, "java/lang/Integer"), (24, "java/util/Arrays"), (25, "SermonPanesLaw")]
def px_cn (n : Nat) : String := ((px_cnL.find? (fun q => q.1 == n)).map (fun q => q.2)).getD ""
def px_C (ci : Nat) : vw_C := vwCl.getD ci (RX0, TX0, 15)
def px_mt0 : List (MethodName × ByteArray × Nat × Option FieldType × Nat) := [
  (⟨"SermonPanesLaw", "law", "([I)Z"⟩, code, 4, (some .boolean), 25),
  (⟨"SermonPanes", "<init>", "()V"⟩, prog_1_method_1_code, 2, none, 8),
  (⟨"SermonPanes$Sums", "<init>", "()V"⟩, prog_7_method_1_code, 1, none, 5),
  (⟨"SermonPanes$Church", "<init>", "(LSermonPanes$Sums;)V"⟩, prog_2_method_1_code, 2, none, 0),
  (⟨"SermonPanes$Nave", "<init>", "()V"⟩, prog_3_method_1_code, 1, none, 1),
  (⟨"SermonPanes$Trail", "<init>", "()V"⟩, prog_9_method_1_code, 2, none, 7),
  (⟨"SermonPanes$Runner", "<init>", "(LSermonPanes$Church;LSermonPanes$Trail;LSermonPanes$Sums;)V"⟩, prog_6_method_1_code, 4, none, 4),
  (⟨"SermonPanes$Paper", "<init>", "(LSermonPanes$Church;LSermonPanes$Sums;)V"⟩, prog_4_method_1_code, 3, none, 2),
  (⟨"SermonPanes$Reader", "<init>", "([I)V"⟩, prog_5_method_1_code, 2, none, 3),
  (⟨"SermonPanes$Text", "<init>", "(II)V"⟩, prog_8_method_1_code, 3, none, 6),
  (⟨"SermonPanes", "word", "(II)I"⟩, prog_1_method_2_code, 4, (some .int), 8),
  (⟨"SermonPanes", "isHue", "(I)Z"⟩, prog_1_method_52_code, 1, (some .boolean), 8),
  (⟨"SermonPanes", "within", "(III)Z"⟩, prog_1_method_50_code, 3, (some .boolean), 8),
  (⟨"SermonPanes", "refuse", "(I)I"⟩, prog_1_method_43_code, 3, (some .int), 8),
  (⟨"SermonPanes$Trail", "clear", "()V"⟩, prog_9_method_2_code, 1, none, 7),
  (⟨"SermonPanes", "accept", "(I)I"⟩, prog_1_method_44_code, 2, (some .int), 8),
  (⟨"SermonPanes", "of", "(II)I"⟩, prog_1_method_3_code, 3, (some .int), 8),
  (⟨"SermonPanes$Church", "isWord", "(I)Z"⟩, prog_2_method_3_code, 2, (some .boolean), 0),
  (⟨"SermonPanes$Church", "isBarred", "(I)Z"⟩, prog_2_method_10_code, 2, (some .boolean), 0),
  (⟨"SermonPanes$Church", "ask", "(II)V"⟩, prog_2_method_18_code, 3, none, 0),
  (⟨"java/util/Arrays", "fill", "([II)V"⟩, prog_18_method_103_code, 4, none, 24),
  (⟨"SermonPanes", "distance", "(II)I"⟩, prog_1_method_56_code, 2, (some .int), 8),
  (⟨"SermonPanes$Church", "lastTold", "(I)I"⟩, prog_2_method_19_code, 5, (some .int), 0),
  (⟨"SermonPanes$Church", "isLaw", "(I)Z"⟩, prog_2_method_5_code, 2, (some .boolean), 0),
  (⟨"SermonPanes$Text", "kindOf", "(I)I"⟩, prog_8_method_7_code, 2, (some .int), 6),
  (⟨"SermonPanes$Sums", "worth", "(LSermonPanes$Text;II[I)I"⟩, prog_7_method_2_code, 14, (some .int), 5),
  (⟨"SermonPanes$Sums", "join", "(IJJ)J"⟩, prog_7_method_3_code, 5, (some .long), 5),
  (⟨"SermonPanes$Church", "stainOf", "(II)I"⟩, prog_2_method_9_code, 5, (some .int), 0),
  (⟨"SermonPanes$Church", "awayOf", "(I)I"⟩, prog_2_method_8_code, 2, (some .int), 0),
  (⟨"SermonPanes", "nearest", "(III)I"⟩, prog_1_method_55_code, 3, (some .int), 8),
  (⟨"SermonPanes", "at", "(II)I"⟩, prog_1_method_4_code, 3, (some .int), 8),
  (⟨"SermonPanes", "isPane", "(I)Z"⟩, prog_1_method_51_code, 1, (some .boolean), 8),
  (⟨"SermonPanes$Nave", "hueOf", "(II)I"⟩, prog_3_method_3_code, 3, (some .int), 1),
  (⟨"SermonPanes$Church", "blackFrom", "(I)I"⟩, prog_2_method_11_code, 3, (some .int), 0),
  (⟨"SermonPanes$Church", "isBlack", "(I)Z"⟩, prog_2_method_12_code, 2, (some .boolean), 0),
  (⟨"SermonPanes$Nave", "allHuesOf", "(I)I"⟩, prog_3_method_4_code, 3, (some .int), 1),
  (⟨"SermonPanes", "listener", "(II)I"⟩, prog_1_method_5_code, 4, (some .int), 8),
  (⟨"SermonPanes", "isSeat", "(I)Z"⟩, prog_1_method_53_code, 1, (some .boolean), 8),
  (⟨"SermonPanes$Church", "isTaken", "(I)Z"⟩, prog_2_method_6_code, 3, (some .boolean), 0),
  (⟨"SermonPanes", "has", "(II)I"⟩, prog_1_method_6_code, 3, (some .int), 8),
  (⟨"SermonPanes$Church", "isListener", "(I)Z"⟩, prog_2_method_4_code, 2, (some .boolean), 0),
  (⟨"SermonPanes$Church", "shine", "(I)V"⟩, prog_2_method_15_code, 5, none, 0),
  (⟨"SermonPanes$Church", "upperPaneOf", "(I)I"⟩, prog_2_method_14_code, 3, (some .int), 0),
  (⟨"SermonPanes$Church", "doesTo", "(I)I"⟩, prog_2_method_16_code, 4, (some .int), 0),
  (⟨"SermonPanes", "light", "(II)I"⟩, prog_1_method_7_code, 3, (some .int), 8),
  (⟨"SermonPanes", "terms", "(II)I"⟩, prog_1_method_8_code, 4, (some .int), 8),
  (⟨"SermonPanes", "highestTerm", "(I)I"⟩, prog_1_method_49_code, 1, (some .int), 8),
  (⟨"SermonPanes$Church", "termOf", "(I)I"⟩, prog_2_method_7_code, 2, (some .int), 0),
  (⟨"SermonPanes", "feed", "(IIIII)I"⟩, prog_1_method_9_code, 6, (some .int), 8),
  (⟨"SermonPanes", "append", "(I)V"⟩, prog_1_method_46_code, 3, none, 8)]
def px_mt1 : List (MethodName × ByteArray × Nat × Option FieldType × Nat) := [
  (⟨"SermonPanes", "end", "(I)I"⟩, prog_1_method_10_code, 2, (some .int), 8),
  (⟨"SermonPanes", "row", "()I"⟩, prog_1_method_11_code, 3, (some .int), 8),
  (⟨"SermonPanes", "tellPane", "(I)Z"⟩, prog_1_method_48_code, 3, (some .boolean), 8),
  (⟨"SermonPanes", "isAmount", "(I)Z"⟩, prog_1_method_54_code, 1, (some .boolean), 8),
  (⟨"SermonPanes", "leads", "()I"⟩, prog_1_method_12_code, 1, (some .int), 8),
  (⟨"SermonPanes", "law", "()I"⟩, prog_1_method_13_code, 3, (some .int), 8),
  (⟨"SermonPanes", "takeTape", "()I"⟩, prog_1_method_47_code, 2, (some .int), 8),
  (⟨"SermonPanes$Reader", "reads", "(IZ)Z"⟩, prog_5_method_2_code, 6, (some .boolean), 3),
  (⟨"SermonPanes$Text", "clear", "()V"⟩, prog_8_method_2_code, 1, none, 6),
  (⟨"SermonPanes$Reader", "next", "()V"⟩, prog_5_method_18_code, 2, none, 3),
  (⟨"SermonPanes$Reader", "tokenOf", "(I)I"⟩, prog_5_method_19_code, 1, (some .int), 3),
  (⟨"SermonPanes$Reader", "clause", "()Z"⟩, prog_5_method_3_code, 4, (some .boolean), 3),
  (⟨"SermonPanes$Reader", "indexIn", "(Ljava/lang/String;)I"⟩, prog_5_method_23_code, 6, (some .int), 3),
  (⟨"java/lang/String", "length", "()I"⟩, prog_14_method_54_code, 1, (some .int), 20),
  (⟨"java/lang/String", "coder", "()B"⟩, prog_14_method_152_code, 1, (some .byte), 20),
  (⟨"java/lang/String", "charAt", "(I)C"⟩, prog_14_method_56_code, 2, (some .char), 20),
  (⟨"java/lang/String", "isLatin1", "()Z"⟩, prog_14_method_154_code, 1, (some .boolean), 20),
  (⟨"java/lang/StringLatin1", "charAt", "([BI)C"⟩, prog_15_method_2_code, 2, (some .char), 21),
  (⟨"java/lang/String", "checkIndex", "(II)V"⟩, prog_14_method_155_code, 2, none, 20),
  (⟨"jdk/internal/util/Preconditions", "checkIndex", "(IILjava/util/function/BiFunction;)I"⟩, prog_19_method_11_code, 3, (some .int), 22),
  (⟨"SermonPanes$Reader", "fail", "()Z"⟩, prog_5_method_17_code, 1, (some .boolean), 3),
  (⟨"SermonPanes$Text", "begin", "(I)V"⟩, prog_8_method_5_code, 4, none, 6),
  (⟨"SermonPanes$Reader", "sumAs", "(I)Z"⟩, prog_5_method_5_code, 3, (some .boolean), 3),
  (⟨"SermonPanes$Text", "mark", "(II)V"⟩, prog_8_method_6_code, 3, none, 6),
  (⟨"SermonPanes$Reader", "sum", "(I)Z"⟩, prog_5_method_9_code, 5, (some .boolean), 3),
  (⟨"SermonPanes$Reader", "term", "(I)Z"⟩, prog_5_method_10_code, 5, (some .boolean), 3),
  (⟨"SermonPanes$Reader", "part", "(I)Z"⟩, prog_5_method_11_code, 2, (some .boolean), 3),
  (⟨"SermonPanes$Reader", "isSign", "(C)Z"⟩, prog_5_method_20_code, 2, (some .boolean), 3),
  (⟨"SermonPanes$Reader", "opened", "(I)Z"⟩, prog_5_method_14_code, 2, (some .boolean), 3),
  (⟨"SermonPanes$Reader", "closed", "(C)Z"⟩, prog_5_method_15_code, 2, (some .boolean), 3),
  (⟨"SermonPanes$Text", "add", "(II)V"⟩, prog_8_method_3_code, 3, none, 6),
  (⟨"SermonPanes$Reader", "orderWord", "()Z"⟩, prog_5_method_13_code, 4, (some .boolean), 3),
  (⟨"SermonPanes$Reader", "lawWord", "()Z"⟩, prog_5_method_12_code, 2, (some .boolean), 3),
  (⟨"SermonPanes$Reader", "signIn", "(Ljava/lang/String;I)I"⟩, prog_5_method_21_code, 4, (some .int), 3),
  (⟨"SermonPanes$Reader", "wanted", "(Ljava/lang/String;)Z"⟩, prog_5_method_16_code, 2, (some .boolean), 3),
  (⟨"SermonPanes$Reader", "isWord", "(Ljava/lang/String;)Z"⟩, prog_5_method_22_code, 2, (some .boolean), 3),
  (⟨"SermonPanes$Reader", "often", "()Z"⟩, prog_5_method_4_code, 1, (some .boolean), 3),
  (⟨"SermonPanes$Reader", "test", "(I)Z"⟩, prog_5_method_6_code, 5, (some .boolean), 3),
  (⟨"SermonPanes$Reader", "both", "(I)Z"⟩, prog_5_method_7_code, 5, (some .boolean), 3),
  (⟨"SermonPanes$Reader", "plain", "(I)Z"⟩, prog_5_method_8_code, 5, (some .boolean), 3),
  (⟨"SermonPanes$Text", "aimHere", "(I)V"⟩, prog_8_method_4_code, 2, none, 6),
  (⟨"SermonPanes$Text", "trimmed", "()LSermonPanes$Text;"⟩, prog_8_method_9_code, 2, (some (.object "SermonPanes$Text")), 6),
  (⟨"SermonPanes", "orders", "()I"⟩, prog_1_method_14_code, 2, (some .int), 8),
  (⟨"SermonPanes$Runner", "begin", "()V"⟩, prog_6_method_2_code, 1, none, 4),
  (⟨"SermonPanes$Nave", "copyFrom", "(LSermonPanes$Nave;)V"⟩, prog_3_method_2_code, 2, none, 1),
  (⟨"SermonPanes$Trail", "copyFrom", "(LSermonPanes$Trail;)V"⟩, prog_9_method_6_code, 4, none, 7),
  (⟨"SermonPanes$Runner", "runClause", "(LSermonPanes$Text;I)V"⟩, prog_6_method_4_code, 8, none, 4),
  (⟨"SermonPanes$Text", "oftenOf", "(I)I"⟩, prog_8_method_8_code, 2, (some .int), 6),
  (⟨"SermonPanes$Runner", "fillValues", "(Z)V"⟩, prog_6_method_5_code, 3, none, 4),
  (⟨"SermonPanes$Church", "blackPanes", "()I"⟩, prog_2_method_13_code, 3, (some .int), 0)]
def px_mt2 : List (MethodName × ByteArray × Nat × Option FieldType × Nat) := [
  (⟨"SermonPanes$Trail", "hold", "(LSermonPanes$Nave;)V"⟩, prog_9_method_3_code, 2, none, 7),
  (⟨"SermonPanes$Church", "preachWord", "(I)I"⟩, prog_2_method_20_code, 6, (some .int), 0),
  (⟨"SermonPanes$Church", "scrapeOne", "(II)I"⟩, prog_2_method_21_code, 4, (some .int), 0),
  (⟨"SermonPanes$Church", "walkTo", "(I)I"⟩, prog_2_method_22_code, 3, (some .int), 0),
  (⟨"SermonPanes$Church", "seatAt", "(II)I"⟩, prog_2_method_23_code, 4, (some .int), 0),
  (⟨"SermonPanes$Church", "passHour", "()I"⟩, prog_2_method_24_code, 2, (some .int), 0),
  (⟨"SermonPanes$Church", "spiritAfter", "(I)I"⟩, prog_2_method_17_code, 2, (some .int), 0),
  (⟨"SermonPanes$Trail", "keep", "(I)V"⟩, prog_9_method_4_code, 2, none, 7),
  (⟨"SermonPanes$Runner", "finish", "()I"⟩, prog_6_method_3_code, 1, (some .int), 4),
  (⟨"SermonPanes", "fault", "()I"⟩, prog_1_method_15_code, 1, (some .int), 8),
  (⟨"SermonPanes", "stopped", "()I"⟩, prog_1_method_16_code, 1, (some .int), 8),
  (⟨"SermonPanes", "force", "(I)I"⟩, prog_1_method_17_code, 3, (some .int), 8),
  (⟨"SermonPanes", "preach", "(I)I"⟩, prog_1_method_18_code, 2, (some .int), 8),
  (⟨"SermonPanes", "settle", "(II)I"⟩, prog_1_method_45_code, 3, (some .int), 8),
  (⟨"SermonPanes", "scrape", "(II)I"⟩, prog_1_method_19_code, 3, (some .int), 8),
  (⟨"SermonPanes", "walk", "(I)I"⟩, prog_1_method_20_code, 2, (some .int), 8),
  (⟨"SermonPanes", "sit", "(II)I"⟩, prog_1_method_21_code, 3, (some .int), 8),
  (⟨"SermonPanes", "pass", "()I"⟩, prog_1_method_22_code, 1, (some .int), 8),
  (⟨"SermonPanes", "undo", "()I"⟩, prog_1_method_23_code, 2, (some .int), 8),
  (⟨"SermonPanes$Trail", "takeLatest", "(LSermonPanes$Nave;)I"⟩, prog_9_method_5_code, 3, (some .int), 7),
  (⟨"SermonPanes", "sermon", "(IIIII)I"⟩, prog_1_method_24_code, 7, (some .int), 8),
  (⟨"SermonPanes$Paper", "prepareSermon", "(IIII)I"⟩, prog_4_method_5_code, 7, (some .int), 2),
  (⟨"SermonPanes$Paper", "fewestFor", "(I)I"⟩, prog_4_method_6_code, 7, (some .int), 2),
  (⟨"SermonPanes$Paper", "wordOfSermon", "(I)I"⟩, prog_4_method_7_code, 4, (some .int), 2),
  (⟨"SermonPanes$Paper", "lowestThatHelps", "()I"⟩, prog_4_method_8_code, 5, (some .int), 2),
  (⟨"SermonPanes", "told", "(III)I"⟩, prog_1_method_25_code, 5, (some .int), 8),
  (⟨"SermonPanes", "forget", "()I"⟩, prog_1_method_26_code, 2, (some .int), 8),
  (⟨"SermonPanes", "preached", "(I)I"⟩, prog_1_method_27_code, 3, (some .int), 8),
  (⟨"SermonPanes$Paper", "findSets", "()I"⟩, prog_4_method_9_code, 2, (some .int), 2),
  (⟨"SermonPanes$Paper", "fillStains", "(I)V"⟩, prog_4_method_3_code, 3, none, 2),
  (⟨"SermonPanes$Paper", "fits", "(I)Z"⟩, prog_4_method_10_code, 7, (some .boolean), 2),
  (⟨"SermonPanes$Paper", "stain", "(II)I"⟩, prog_4_method_2_code, 3, (some .int), 2),
  (⟨"SermonPanes", "look", "(I)I"⟩, prog_1_method_28_code, 3, (some .int), 8),
  (⟨"SermonPanes$Paper", "findPaneToLookAt", "()I"⟩, prog_4_method_11_code, 4, (some .int), 2),
  (⟨"SermonPanes$Paper", "mostAlikeAt", "(I)I"⟩, prog_4_method_12_code, 5, (some .int), 2),
  (⟨"SermonPanes", "seated", "(I)I"⟩, prog_1_method_29_code, 3, (some .int), 8),
  (⟨"SermonPanes$Paper", "prepareSeats", "()I"⟩, prog_4_method_13_code, 3, (some .int), 2),
  (⟨"java/lang/Integer", "bitCount", "(I)I"⟩, prog_12_method_49_code, 1, (some .int), 23),
  (⟨"SermonPanes$Paper", "mostFor", "(II)I"⟩, prog_4_method_14_code, 5, (some .int), 2),
  (⟨"SermonPanes$Paper", "seatOf", "(I)I"⟩, prog_4_method_15_code, 5, (some .int), 2),
  (⟨"SermonPanes$Paper", "lowestBestSeat", "(II)I"⟩, prog_4_method_16_code, 4, (some .int), 2),
  (⟨"SermonPanes", "cleared", "(I)I"⟩, prog_1_method_30_code, 2, (some .int), 8),
  (⟨"SermonPanes$Paper", "scrapingsFor", "(I)I"⟩, prog_4_method_17_code, 6, (some .int), 2),
  (⟨"SermonPanes", "apart", "(I)I"⟩, prog_1_method_31_code, 3, (some .int), 8),
  (⟨"SermonPanes$Paper", "fewestPanesApart", "()I"⟩, prog_4_method_18_code, 4, (some .int), 2),
  (⟨"SermonPanes$Paper", "fillAllStains", "()V"⟩, prog_4_method_4_code, 2, none, 2),
  (⟨"SermonPanes$Paper", "fillUnlike", "()V"⟩, prog_4_method_19_code, 5, none, 2),
  (⟨"SermonPanes$Paper", "isUnlike", "(III)Z"⟩, prog_4_method_20_code, 5, (some .boolean), 2),
  (⟨"SermonPanes$Paper", "tellsApart", "(I)Z"⟩, prog_4_method_21_code, 3, (some .boolean), 2),
  (⟨"SermonPanes$Paper", "nextOfSize", "(I)I"⟩, prog_4_method_22_code, 3, (some .int), 2)]
def px_mt3 : List (MethodName × ByteArray × Nat × Option FieldType × Nat) := [
  (⟨"SermonPanes", "place", "(II)I"⟩, prog_1_method_32_code, 4, (some .int), 8),
  (⟨"SermonPanes$Paper", "bestPlaceFor", "(I)I"⟩, prog_4_method_23_code, 6, (some .int), 2),
  (⟨"SermonPanes$Church", "copyFrom", "(LSermonPanes$Church;)V"⟩, prog_2_method_2_code, 3, none, 0),
  (⟨"SermonPanes", "way", "(II)I"⟩, prog_1_method_33_code, 4, (some .int), 8),
  (⟨"SermonPanes$Paper", "prepareWay", "(I)I"⟩, prog_4_method_24_code, 5, (some .int), 2),
  (⟨"SermonPanes$Paper", "fewestBlackAhead", "(I)I"⟩, prog_4_method_25_code, 4, (some .int), 2),
  (⟨"SermonPanes$Paper", "isStepOn", "(II)Z"⟩, prog_4_method_26_code, 3, (some .boolean), 2),
  (⟨"SermonPanes$Paper", "placeOfWay", "(I)I"⟩, prog_4_method_27_code, 4, (some .int), 2),
  (⟨"SermonPanes$Paper", "nextOfWay", "(I)I"⟩, prog_4_method_28_code, 3, (some .int), 2),
  (⟨"SermonPanes", "later", "(II)I"⟩, prog_1_method_34_code, 3, (some .int), 8),
  (⟨"SermonPanes$Paper", "spiritLater", "(II)I"⟩, prog_4_method_29_code, 4, (some .int), 2),
  (⟨"SermonPanes", "blackened", "(I)I"⟩, prog_1_method_35_code, 2, (some .int), 8),
  (⟨"SermonPanes$Paper", "blackBy", "(I)I"⟩, prog_4_method_30_code, 2, (some .int), 2),
  (⟨"SermonPanes", "few", "(II)J"⟩, prog_1_method_36_code, 3, (some .long), 8),
  (⟨"SermonPanes$Paper", "chanceOfFewer", "(II)J"⟩, prog_4_method_31_code, 7, (some .long), 2),
  (⟨"java/util/Arrays", "fill", "([JJ)V"⟩, prog_18_method_101_code, 5, none, 24),
  (⟨"SermonPanes", "years", "(II)I"⟩, prog_1_method_37_code, 3, (some .int), 8),
  (⟨"SermonPanes$Church", "liveYears", "(II)I"⟩, prog_2_method_25_code, 9, (some .int), 0),
  (⟨"SermonPanes$Church", "nextSeed", "(I)I"⟩, prog_2_method_26_code, 1, (some .int), 0),
  (⟨"SermonPanes", "drawn", "(II)I"⟩, prog_1_method_38_code, 3, (some .int), 8),
  (⟨"SermonPanes", "image", "(I)I"⟩, prog_1_method_39_code, 2, (some .int), 8),
  (⟨"SermonPanes", "back", "(I)I"⟩, prog_1_method_40_code, 2, (some .int), 8),
  (⟨"SermonPanes", "count", "(I)I"⟩, prog_1_method_41_code, 2, (some .int), 8),
  (⟨"SermonPanes", "status", "()I"⟩, prog_1_method_42_code, 1, (some .int), 8),
  (⟨"SermonPanesModel", "<init>", "()V"⟩, prog_11_method_1_code, 1, none, 9),
  (⟨"SermonPanesModel", "undo", "()I"⟩, prog_11_method_13_code, 1, (some .int), 9),
  (⟨"SermonPanesModel", "tell", "(I)I"⟩, prog_11_method_7_code, 2, (some .int), 9),
  (⟨"SermonPanesModel", "putBack", "(I)V"⟩, prog_11_method_11_code, 3, none, 9),
  (⟨"SermonPanesModel", "image", "(I)I"⟩, prog_11_method_14_code, 3, (some .int), 9),
  (⟨"SermonPanesModel", "in", "(JJJ)Z"⟩, prog_11_method_3_code, 6, (some .boolean), 9),
  (⟨"SermonPanesModel", "back", "(I)I"⟩, prog_11_method_15_code, 3, (some .int), 9),
  (⟨"SermonPanesModel", "settled", "(I)I"⟩, prog_11_method_9_code, 2, (some .int), 9),
  (⟨"SermonPanesModel", "word", "(II)I"⟩, prog_11_method_24_code, 4, (some .int), 9),
  (⟨"SermonPanesModel", "isHue", "(I)Z"⟩, prog_11_method_20_code, 1, (some .boolean), 9),
  (⟨"SermonPanesModel", "of", "(II)I"⟩, prog_11_method_25_code, 3, (some .int), 9),
  (⟨"SermonPanesModel", "isWord1", "(I)Z"⟩, prog_11_method_16_code, 2, (some .boolean), 9),
  (⟨"SermonPanesModel", "isBarred", "(I)Z"⟩, prog_11_method_74_code, 2, (some .boolean), 9),
  (⟨"SermonPanesModel", "setNone", "()V"⟩, prog_11_method_69_code, 2, none, 9),
  (⟨"SermonPanesModel", "setWord", "(I)V"⟩, prog_11_method_70_code, 2, none, 9),
  (⟨"SermonPanesModel", "tells", "(IJ)J"⟩, prog_11_method_72_code, 8, (some .long), 9),
  (⟨"SermonPanesModel", "isSo", "(I)Z"⟩, prog_11_method_68_code, 2, (some .boolean), 9),
  (⟨"SermonPanesModel", "reckonAll", "(II)V"⟩, prog_11_method_67_code, 7, none, 9),
  (⟨"SermonPanesModel", "isListener", "(I)Z"⟩, prog_11_method_17_code, 2, (some .boolean), 9),
  (⟨"SermonPanesModel", "reckon", "(IJJ)J"⟩, prog_11_method_66_code, 6, (some .long), 9),
  (⟨"SermonPanesModel", "stainsOf", "(II)I"⟩, prog_11_method_73_code, 4, (some .int), 9),
  (⟨"SermonPanesModel", "setPane", "(I)V"⟩, prog_11_method_71_code, 3, none, 9),
  (⟨"SermonPanesModel", "apartOf", "(II)I"⟩, prog_11_method_21_code, 4, (some .int), 9),
  (⟨"SermonPanesModel", "within", "(JII)I"⟩, prog_11_method_6_code, 4, (some .int), 9),
  (⟨"SermonPanesModel", "at", "(II)I"⟩, prog_11_method_26_code, 3, (some .int), 9),
  (⟨"SermonPanesModel", "isPane", "(I)Z"⟩, prog_11_method_18_code, 1, (some .boolean), 9)]
def px_mt4 : List (MethodName × ByteArray × Nat × Option FieldType × Nat) := [
  (⟨"SermonPanesModel", "blacksOf", "(I)I"⟩, prog_11_method_75_code, 2, (some .int), 9),
  (⟨"SermonPanesModel", "isBlack", "(I)Z"⟩, prog_11_method_76_code, 2, (some .boolean), 9),
  (⟨"SermonPanesModel", "sumOf1", "(I)I"⟩, prog_11_method_22_code, 2, (some .int), 9),
  (⟨"SermonPanesModel", "listener", "(II)I"⟩, prog_11_method_27_code, 4, (some .int), 9),
  (⟨"SermonPanesModel", "isSeat", "(I)Z"⟩, prog_11_method_19_code, 1, (some .boolean), 9),
  (⟨"SermonPanesModel", "onSeat", "(I)I"⟩, prog_11_method_23_code, 4, (some .int), 9),
  (⟨"SermonPanesModel", "has", "(II)I"⟩, prog_11_method_28_code, 3, (some .int), 9),
  (⟨"SermonPanesModel", "doesOf", "(II)I"⟩, prog_11_method_79_code, 6, (some .int), 9),
  (⟨"SermonPanesModel", "lightOf", "(II)I"⟩, prog_11_method_78_code, 6, (some .int), 9),
  (⟨"SermonPanesModel", "paneOf", "(I)I"⟩, prog_11_method_77_code, 2, (some .int), 9),
  (⟨"SermonPanesModel", "light", "(II)I"⟩, prog_11_method_29_code, 3, (some .int), 9),
  (⟨"SermonPanesModel", "terms", "(II)I"⟩, prog_11_method_30_code, 4, (some .int), 9),
  (⟨"SermonPanesModel", "change", "(II)I"⟩, prog_11_method_8_code, 4, (some .int), 9),
  (⟨"SermonPanesModel", "row", "()I"⟩, prog_11_method_31_code, 5, (some .int), 9),
  (⟨"SermonPanesModel", "leads", "()I"⟩, prog_11_method_32_code, 1, (some .int), 9),
  (⟨"SermonPanesModel", "feed", "(IIIII)I"⟩, prog_11_method_34_code, 6, (some .int), 9),
  (⟨"SermonPanesModel", "four", "(I)V"⟩, prog_11_method_33_code, 3, none, 9),
  (⟨"SermonPanesModel", "end", "(I)I"⟩, prog_11_method_35_code, 2, (some .int), 9),
  (⟨"SermonPanesModel", "fault", "()I"⟩, prog_11_method_44_code, 1, (some .int), 9),
  (⟨"SermonPanesModel", "law", "()I"⟩, prog_11_method_63_code, 3, (some .int), 9),
  (⟨"SermonPanesModel", "beginText", "(Z)V"⟩, prog_11_method_60_code, 2, none, 9),
  (⟨"SermonPanesModel", "begin", "()V"⟩, prog_11_method_38_code, 1, none, 9),
  (⟨"SermonPanesModel", "next", "()V"⟩, prog_11_method_39_code, 1, none, 9),
  (⟨"SermonPanesModel", "isSmall", "(I)Z"⟩, prog_11_method_36_code, 1, (some .boolean), 9),
  (⟨"SermonPanesModel", "isDigit", "(I)Z"⟩, prog_11_method_37_code, 1, (some .boolean), 9),
  (⟨"SermonPanesModel", "readLaw", "()V"⟩, prog_11_method_62_code, 4, none, 9),
  (⟨"SermonPanesModel", "isWord", "(J)Z"⟩, prog_11_method_40_code, 3, (some .boolean), 9),
  (⟨"SermonPanesModel", "must", "(Z)V"⟩, prog_11_method_42_code, 2, none, 9),
  (⟨"SermonPanesModel", "readExpression", "(Z)V"⟩, prog_11_method_59_code, 3, none, 9),
  (⟨"SermonPanesModel", "readPlain", "()I"⟩, prog_11_method_56_code, 1, (some .int), 9),
  (⟨"SermonPanesModel", "push", "(II)V"⟩, prog_11_method_46_code, 3, none, 9),
  (⟨"SermonPanesModel", "isSign", "(I)Z"⟩, prog_11_method_41_code, 2, (some .boolean), 9),
  (⟨"SermonPanesModel", "openBracket", "(I)V"⟩, prog_11_method_53_code, 2, none, 9),
  (⟨"SermonPanesModel", "readPart", "()I"⟩, prog_11_method_55_code, 4, (some .int), 9),
  (⟨"SermonPanesModel", "orderPartAt", "()I"⟩, prog_11_method_52_code, 3, (some .int), 9),
  (⟨"SermonPanesModel", "partAt", "()I"⟩, prog_11_method_51_code, 3, (some .int), 9),
  (⟨"SermonPanesModel", "leaf", "(ZII)V"⟩, prog_11_method_54_code, 4, none, 9),
  (⟨"SermonPanesModel", "emit", "(II)V"⟩, prog_11_method_45_code, 3, none, 9),
  (⟨"SermonPanesModel", "number", "(JJ)I"⟩, prog_11_method_43_code, 6, (some .int), 9),
  (⟨"SermonPanesModel", "behindSum", "(Z)I"⟩, prog_11_method_57_code, 4, (some .int), 9),
  (⟨"SermonPanesModel", "binds", "(I)I"⟩, prog_11_method_47_code, 1, (some .int), 9),
  (⟨"SermonPanesModel", "settle", "(I)V"⟩, prog_11_method_48_code, 2, none, 9),
  (⟨"SermonPanesModel", "inner", "()I"⟩, prog_11_method_49_code, 3, (some .int), 9),
  (⟨"SermonPanesModel", "isCompared", "()Z"⟩, prog_11_method_50_code, 2, (some .boolean), 9),
  (⟨"SermonPanesModel", "behindTest", "()I"⟩, prog_11_method_58_code, 2, (some .int), 9),
  (⟨"SermonPanesModel", "endText", "()V"⟩, prog_11_method_61_code, 1, none, 9),
  (⟨"SermonPanesModel", "force", "(I)I"⟩, prog_11_method_65_code, 2, (some .int), 9),
  (⟨"SermonPanesModel", "isLaw", "(I)Z"⟩, prog_11_method_64_code, 2, (some .boolean), 9),
  (⟨"SermonPanesModel", "preach", "(I)I"⟩, prog_11_method_83_code, 2, (some .int), 9),
  (⟨"SermonPanesModel", "preachNow", "(I)I"⟩, prog_11_method_82_code, 2, (some .int), 9)]
def px_mt5 : List (MethodName × ByteArray × Nat × Option FieldType × Nat) := [
  (⟨"SermonPanesModel", "remember", "(I)V"⟩, prog_11_method_12_code, 3, none, 9),
  (⟨"SermonPanesModel", "keepAll", "(I)V"⟩, prog_11_method_10_code, 3, none, 9),
  (⟨"SermonPanesModel", "preachIt", "(I)I"⟩, prog_11_method_81_code, 6, (some .int), 9),
  (⟨"SermonPanesModel", "scrape", "(II)I"⟩, prog_11_method_85_code, 3, (some .int), 9),
  (⟨"SermonPanesModel", "scrapeNow", "(II)I"⟩, prog_11_method_84_code, 3, (some .int), 9),
  (⟨"SermonPanesModel", "walk", "(I)I"⟩, prog_11_method_87_code, 2, (some .int), 9),
  (⟨"SermonPanesModel", "walkNow", "(I)I"⟩, prog_11_method_86_code, 3, (some .int), 9),
  (⟨"SermonPanesModel", "sit", "(II)I"⟩, prog_11_method_89_code, 3, (some .int), 9),
  (⟨"SermonPanesModel", "sitNow", "(II)I"⟩, prog_11_method_88_code, 4, (some .int), 9),
  (⟨"SermonPanesModel", "pass", "()I"⟩, prog_11_method_92_code, 1, (some .int), 9),
  (⟨"SermonPanesModel", "passNow", "()I"⟩, prog_11_method_91_code, 1, (some .int), 9),
  (⟨"SermonPanesModel", "passIt", "()V"⟩, prog_11_method_90_code, 2, none, 9),
  (⟨"SermonPanesModel", "sermon", "(IIIII)I"⟩, prog_11_method_97_code, 9, (some .int), 9),
  (⟨"SermonPanesModel", "layFewest", "(I)V"⟩, prog_11_method_94_code, 9, none, 9),
  (⟨"SermonPanesModel", "fewestFrom", "(III)I"⟩, prog_11_method_93_code, 4, (some .int), 9),
  (⟨"SermonPanesModel", "allFrom", "(I)I"⟩, prog_11_method_95_code, 2, (some .int), 9),
  (⟨"SermonPanesModel", "canCome", "(III)Z"⟩, prog_11_method_96_code, 7, (some .boolean), 9),
  (⟨"SermonPanesModel", "told", "(III)I"⟩, prog_11_method_98_code, 5, (some .int), 9),
  (⟨"SermonPanesModel", "forget", "()I"⟩, prog_11_method_99_code, 2, (some .int), 9),
  (⟨"SermonPanesModel", "preached", "(I)I"⟩, prog_11_method_103_code, 5, (some .int), 9),
  (⟨"SermonPanesModel", "layAll", "()V"⟩, prog_11_method_100_code, 3, none, 9),
  (⟨"SermonPanesModel", "canBe", "(I)Z"⟩, prog_11_method_102_code, 4, (some .boolean), 9),
  (⟨"SermonPanesModel", "givenBy", "(III)I"⟩, prog_11_method_101_code, 6, (some .int), 9),
  (⟨"SermonPanesModel", "is", "(II)Z"⟩, prog_11_method_4_code, 2, (some .boolean), 9),
  (⟨"SermonPanesModel", "look", "(I)I"⟩, prog_11_method_105_code, 6, (some .int), 9),
  (⟨"SermonPanesModel", "mostAlike", "(I)I"⟩, prog_11_method_104_code, 5, (some .int), 9),
  (⟨"SermonPanesModel", "seated", "(I)I"⟩, prog_11_method_108_code, 4, (some .int), 9),
  (⟨"SermonPanesModel", "findSeated", "()I"⟩, prog_11_method_107_code, 7, (some .int), 9),
  (⟨"SermonPanesModel", "isNew", "(I)Z"⟩, prog_11_method_106_code, 4, (some .boolean), 9),
  (⟨"SermonPanesModel", "cleared", "(I)I"⟩, prog_11_method_109_code, 7, (some .int), 9),
  (⟨"SermonPanesModel", "apart", "(I)I"⟩, prog_11_method_111_code, 8, (some .int), 9),
  (⟨"SermonPanesModel", "unlike", "(II)I"⟩, prog_11_method_110_code, 7, (some .int), 9),
  (⟨"SermonPanesModel", "ones", "(I)I"⟩, prog_11_method_5_code, 3, (some .int), 9),
  (⟨"SermonPanesModel", "place", "(II)I"⟩, prog_11_method_112_code, 9, (some .int), 9),
  (⟨"SermonPanesModel", "way", "(II)I"⟩, prog_11_method_116_code, 6, (some .int), 9),
  (⟨"SermonPanesModel", "layWay", "(I)V"⟩, prog_11_method_115_code, 4, none, 9),
  (⟨"SermonPanesModel", "leastOn", "(II)I"⟩, prog_11_method_114_code, 5, (some .int), 9),
  (⟨"SermonPanesModel", "nearer", "(III)I"⟩, prog_11_method_113_code, 6, (some .int), 9),
  (⟨"SermonPanesModel", "later", "(II)I"⟩, prog_11_method_117_code, 4, (some .int), 9),
  (⟨"SermonPanesModel", "blackened", "(I)I"⟩, prog_11_method_118_code, 4, (some .int), 9),
  (⟨"SermonPanesModel", "blackOnes", "()I"⟩, prog_11_method_80_code, 3, (some .int), 9),
  (⟨"SermonPanesModel", "few", "(II)J"⟩, prog_11_method_119_code, 8, (some .long), 9),
  (⟨"SermonPanesModel", "orders", "()I"⟩, prog_11_method_125_code, 4, (some .int), 9),
  (⟨"SermonPanesModel", "readOrder", "()V"⟩, prog_11_method_121_code, 4, none, 9),
  (⟨"SermonPanesModel", "readSum", "(I)V"⟩, prog_11_method_120_code, 2, none, 9),
  (⟨"SermonPanesModel", "run", "(I)I"⟩, prog_11_method_124_code, 5, (some .int), 9),
  (⟨"SermonPanesModel", "sumOf", "(I)I"⟩, prog_11_method_122_code, 2, (some .int), 9),
  (⟨"SermonPanesModel", "act", "(III)I"⟩, prog_11_method_123_code, 4, (some .int), 9),
  (⟨"SermonPanesModel", "giveBack", "(I)V"⟩, prog_11_method_126_code, 3, none, 9),
  (⟨"SermonPanesModel", "stopped", "()I"⟩, prog_11_method_127_code, 1, (some .int), 9)]
def px_mt6 : List (MethodName × ByteArray × Nat × Option FieldType × Nat) := [
  (⟨"SermonPanesModel", "years", "(II)I"⟩, prog_11_method_129_code, 8, (some .int), 9),
  (⟨"SermonPanesModel", "draw", "(I)I"⟩, prog_11_method_128_code, 2, (some .int), 9),
  (⟨"SermonPanesModel", "drawn", "(II)I"⟩, prog_11_method_130_code, 3, (some .int), 9),
  (⟨"SermonPanesModel", "count", "(I)I"⟩, prog_11_method_131_code, 2, (some .int), 9),
  (⟨"SermonPanesModel", "status", "()I"⟩, prog_11_method_132_code, 1, (some .int), 9)]
def px_mt : List (MethodName × ByteArray × Nat × Option FieldType × Nat) := px_mt0 ++ (px_mt1 ++ (px_mt2 ++ (px_mt3 ++ (px_mt4 ++ (px_mt5 ++ (px_mt6))))))
def px_mp0 : List (Nat × Nat × Nat × Bool × Nat × Bool) := [
  (9999, 0, 9999, false, 9999, false), (23, 1, 22, false, 9999, false), (31, 2, 30, false, 9999, false), (42, 3, 41, false, 9999, false), (48, 4, 47, false, 9999, false), (159, 5, 158, false, 9999, false), (183, 6, 182, false, 9999, false), (222, 7, 221, false, 9999, false), (292, 8, 291, false, 9999, false), (298, 9, 297, false, 9999, false), (413, 1, 411, false, 533, true), (416, 1, 415, true, 9999, false), (419, 1, 418, true, 9999, false), (423, 1, 422, false, 0, true), (427, 5, 425, false, 547, true), (431, 1, 430, false, 1, true), (435, 1, 433, false, 555, true), (439, 3, 437, false, 559, true), (444, 3, 442, false, 564, true), (448, 3, 447, false, 2, true), (451, 12, 450, true, 9999, false), (454, 1, 453, true, 9999, false), (464, 3, 463, false, 3, true), (468, 3, 466, false, 588, true), (473, 9, 471, false, 593, true), (477, 2, 475, false, 597, true), (481, 2, 480, true, 9999, false), (488, 3, 486, false, 608, true), (492, 3, 490, false, 612, true), (495, 1, 494, true, 9999, false), (503, 1, 501, false, 623, true), (506, 1, 505, true, 9999, false), (510, 4, 508, false, 630, true), (514, 3, 512, false, 634, true), (518, 3, 516, false, 638, true), (522, 4, 520, false, 642, true), (528, 1, 526, false, 648, true), (531, 1, 530, true, 9999, false), (535, 3, 533, false, 655, true), (539, 1, 537, false, 659, true), (543, 3, 541, false, 663, true), (547, 3, 545, false, 667, true), (551, 3, 549, false, 671, true), (556, 3, 554, false, 676, true), (560, 1, 558, false, 680, true), (564, 1, 562, false, 684, true), (567, 1, 566, true, 9999, false), (571, 3, 569, false, 691, true), (575, 1, 573, false, 695, true), (579, 1, 578, false, 4, true)]
def px_mp1 : List (Nat × Nat × Nat × Bool × Nat × Bool) := [
  (583, 1, 581, false, 703, true), (587, 1, 585, false, 707, true), (591, 1, 590, false, 5, true), (594, 1, 593, true, 9999, false), (599, 1, 597, false, 719, true), (603, 1, 601, false, 723, true), (607, 1, 606, false, 6, true), (611, 8, 609, false, 731, true), (616, 9, 614, false, 736, true), (620, 8, 619, false, 7, true), (623, 8, 622, true, 9999, false), (628, 8, 627, false, 8, true), (634, 8, 633, false, 9, true), (638, 14, 636, false, 758, true), (642, 14, 640, false, 762, true), (648, 14, 646, false, 768, true), (652, 14, 650, false, 772, true), (655, 15, 654, true, 9999, false), (658, 14, 657, true, 9999, false), (663, 16, 662, true, 9999, false), (686, 8, 685, false, 10, true), (690, 9, 688, false, 810, true), (694, 8, 693, false, 11, true), (698, 9, 696, false, 818, true), (702, 8, 701, false, 12, true), (706, 8, 705, false, 13, true), (710, 8, 709, false, 14, true), (714, 8, 713, false, 15, true), (718, 8, 717, false, 16, true), (722, 8, 721, false, 17, true), (726, 9, 724, false, 846, true), (730, 8, 729, false, 18, true), (735, 8, 734, false, 19, true), (741, 8, 740, false, 20, true), (747, 8, 746, false, 21, true), (751, 8, 750, false, 22, true), (757, 8, 756, false, 23, true), (763, 8, 762, false, 24, true), (767, 8, 766, false, 25, true), (771, 8, 770, false, 26, true), (778, 9, 776, false, 898, true), (784, 9, 782, false, 904, true), (792, 1, 790, false, 912, true), (796, 6, 794, false, 916, true), (800, 4, 798, false, 920, true), (805, 5, 803, false, 925, true), (811, 6, 809, false, 931, true), (816, 9, 814, false, 936, true), (820, 6, 819, false, 27, true), (824, 3, 822, false, 944, true)]
def px_mp2 : List (Nat × Nat × Nat × Bool × Nat × Bool) := [
  (831, 5, 829, false, 951, true), (836, 3, 834, false, 956, true), (844, 3, 842, false, 964, true), (850, 3, 848, false, 970, true), (854, 3, 852, false, 974, true), (861, 3, 859, false, 981, true), (866, 3, 864, false, 986, true), (871, 5, 869, false, 991, true), (875, 6, 873, false, 995, true), (879, 1, 877, false, 999, true), (883, 1, 881, false, 1003, true), (887, 1, 885, false, 1007, true), (892, 1, 890, false, 1012, true), (898, 1, 897, false, 28, true), (903, 1, 901, false, 1023, true), (908, 1, 906, false, 1028, true), (913, 1, 911, false, 1033, true), (918, 1, 916, false, 1038, true), (923, 1, 921, false, 1043, true), (927, 5, 925, false, 1047, true), (931, 1, 929, false, 1051, true), (935, 7, 933, false, 1055, true), (942, 7, 941, false, 29, true), (948, 7, 946, false, 1068, true), (952, 7, 951, false, 30, true), (956, 1, 954, false, 1076, true), (960, 1, 958, false, 1080, true), (964, 1, 962, false, 1084, true), (968, 7, 966, false, 1088, true), (972, 7, 971, false, 31, true), (976, 7, 975, false, 32, true), (980, 7, 979, false, 33, true), (984, 1, 982, false, 1104, true), (988, 7, 986, false, 1108, true), (992, 7, 991, false, 34, true), (998, 1, 996, false, 1118, true), (1002, 7, 1000, false, 1122, true), (1007, 18, 1006, true, 9999, false), (1014, 7, 1013, false, 35, true), (1019, 7, 1017, false, 1139, true), (1023, 7, 1022, false, 36, true), (1027, 1, 1025, false, 1147, true), (1031, 7, 1029, false, 1151, true), (1038, 1, 1036, false, 1158, true), (1042, 7, 1040, false, 1162, true), (1046, 7, 1045, false, 37, true), (1050, 7, 1049, false, 38, true), (1054, 7, 1053, false, 39, true), (1059, 7, 1058, false, 40, true), (1063, 7, 1062, true, 9999, false)]
def px_mp3 : List (Nat × Nat × Nat × Bool × Nat × Bool) := [
  (1068, 1, 1066, false, 1188, true), (1072, 7, 1070, false, 1192, true), (1076, 3, 1074, false, 1196, true), (1081, 1, 1079, false, 1201, true), (1085, 7, 1083, false, 1205, true), (1091, 7, 1090, false, 41, true), (1095, 7, 1094, false, 42, true), (1099, 7, 1097, false, 1219, true), (1103, 7, 1102, false, 43, true), (1107, 1, 1105, false, 1227, true), (1111, 7, 1109, false, 1231, true), (1116, 1, 1114, false, 1236, true), (1120, 7, 1118, false, 1240, true), (1125, 1, 1123, false, 1245, true), (1130, 7, 1128, false, 1250, true), (1133, 12, 1132, true, 9999, false), (1139, 1, 1137, false, 1259, true), (1145, 3, 1143, false, 1265, true), (1148, 3, 1147, true, 9999, false), (1157, 1, 1155, false, 1277, true), (1161, 1, 1159, false, 1281, true), (1165, 1, 1163, false, 1285, true), (1169, 1, 1167, false, 1289, true), (1174, 1, 1172, false, 1294, true), (1179, 11, 1178, false, 9999, false), (1396, 11, 1394, false, 1516, true), (1400, 11, 1399, false, 44, true), (1404, 11, 1403, false, 45, true), (1408, 11, 1406, false, 1528, true), (1411, 11, 1410, true, 9999, false), (1415, 11, 1413, false, 1535, true), (1419, 11, 1418, false, 46, true), (1423, 11, 1421, false, 1543, true), (1426, 11, 1425, true, 9999, false), (1432, 11, 1430, false, 1552, true), (1436, 11, 1435, false, 47, true), (1441, 11, 1440, false, 48, true), (1445, 11, 1444, false, 49, true), (1450, 11, 1449, false, 50, true), (1454, 11, 1453, false, 51, true), (1458, 11, 1457, false, 52, true), (1462, 11, 1461, false, 53, true), (1466, 11, 1465, false, 54, true), (1470, 11, 1469, false, 55, true), (1476, 11, 1475, false, 56, true), (1480, 11, 1479, false, 57, true), (1483, 11, 1482, true, 9999, false), (1486, 11, 1485, true, 9999, false), (1490, 11, 1488, false, 1610, true), (1493, 11, 1492, true, 9999, false)]
def px_mp4 : List (Nat × Nat × Nat × Bool × Nat × Bool) := [
  (1498, 11, 1497, false, 58, true), (1503, 11, 1502, false, 59, true), (1507, 11, 1506, false, 60, true), (1511, 11, 1509, false, 1631, true), (1514, 11, 1513, true, 9999, false), (1520, 11, 1519, false, 61, true), (1524, 11, 1522, false, 1644, true), (1528, 11, 1527, false, 62, true), (1532, 11, 1531, false, 63, true), (1536, 11, 1535, false, 64, true), (1540, 11, 1538, false, 1660, true), (1544, 11, 1542, false, 1664, true), (1550, 11, 1549, false, 65, true), (1554, 11, 1552, false, 1674, true), (1558, 11, 1556, false, 1678, true), (1562, 11, 1560, false, 1682, true), (1566, 11, 1565, false, 66, true), (1570, 11, 1568, false, 1690, true), (1574, 11, 1572, false, 1694, true), (1578, 11, 1576, false, 1698, true), (1582, 11, 1581, false, 67, true), (1586, 11, 1585, false, 68, true), (1590, 11, 1589, false, 69, true), (1593, 11, 1592, true, 9999, false), (1596, 11, 1595, true, 9999, false), (1604, 11, 1603, false, 70, true), (1608, 11, 1607, false, 71, true), (1612, 11, 1611, false, 72, true), (1616, 11, 1615, false, 73, true), (1620, 11, 1619, false, 74, true), (1625, 11, 1624, false, 75, true), (1629, 11, 1628, false, 76, true), (1633, 11, 1632, false, 77, true), (1637, 11, 1636, false, 78, true), (1641, 11, 1640, false, 79, true), (1645, 11, 1644, false, 80, true), (1650, 11, 1649, false, 81, true), (1654, 11, 1653, false, 82, true), (1659, 11, 1658, false, 83, true), (1663, 11, 1662, false, 84, true), (1666, 11, 1665, true, 9999, false), (1670, 11, 1669, false, 85, true), (1674, 11, 1673, false, 86, true), (1678, 11, 1677, false, 87, true), (1686, 11, 1685, false, 88, true), (1693, 11, 1692, false, 89, true), (1697, 11, 1695, false, 1817, true), (1701, 11, 1700, false, 90, true), (1705, 11, 1703, false, 1825, true), (1709, 11, 1708, false, 91, true)]
def px_mp5 : List (Nat × Nat × Nat × Bool × Nat × Bool) := [
  (1713, 11, 1712, false, 92, true), (1717, 11, 1716, false, 93, true), (1721, 11, 1720, false, 94, true), (1725, 11, 1723, false, 1845, true), (1729, 11, 1728, false, 95, true), (1733, 11, 1731, false, 1853, true), (1737, 11, 1736, false, 96, true), (1741, 11, 1739, false, 1861, true), (1745, 11, 1744, false, 97, true), (1749, 11, 1747, false, 1869, true), (1753, 11, 1752, false, 98, true), (1757, 11, 1756, false, 99, true), (1761, 11, 1759, false, 1881, true), (1765, 11, 1764, false, 100, true), (1770, 11, 1769, false, 101, true), (1774, 11, 1773, false, 102, true), (1778, 11, 1777, false, 103, true), (1782, 11, 1780, false, 1902, true), (1786, 11, 1784, false, 1906, true), (1790, 11, 1788, false, 1910, true), (1794, 11, 1793, false, 104, true), (1798, 11, 1797, false, 105, true), (1802, 11, 1801, false, 106, true), (1805, 11, 1804, true, 9999, false), (1809, 11, 1807, false, 1929, true), (1813, 11, 1812, false, 107, true), (1817, 11, 1815, false, 1937, true), (1821, 11, 1820, false, 108, true), (1826, 11, 1825, false, 109, true), (1830, 11, 1828, false, 1950, true), (1834, 11, 1832, false, 1954, true), (1838, 11, 1837, false, 110, true), (1842, 11, 1841, true, 9999, false), (1846, 11, 1844, false, 1966, true), (1850, 11, 1848, false, 1970, true), (1854, 11, 1853, false, 111, true), (1858, 11, 1857, false, 112, true), (1861, 11, 1860, true, 9999, false), (1865, 11, 1863, false, 1985, true), (1869, 11, 1867, false, 1989, true), (1873, 11, 1872, false, 113, true), (1877, 11, 1875, false, 1997, true), (1882, 11, 1880, false, 2002, true), (1886, 11, 1885, false, 114, true), (1890, 11, 1889, false, 115, true), (1897, 11, 1896, false, 116, true), (1901, 11, 1900, false, 117, true), (1905, 11, 1904, false, 118, true), (1909, 11, 1908, false, 119, true), (1913, 11, 1911, false, 2033, true)]
def px_mp6 : List (Nat × Nat × Nat × Bool × Nat × Bool) := [
  (1917, 11, 1915, false, 2037, true), (1921, 11, 1920, false, 120, true), (1928, 11, 1926, false, 2048, true), (1933, 11, 1931, false, 2053, true), (1939, 11, 1937, false, 2059, true)]
def px_mp : List (Nat × Nat × Nat × Bool × Nat × Bool) := px_mp0 ++ (px_mp1 ++ (px_mp2 ++ (px_mp3 ++ (px_mp4 ++ (px_mp5 ++ (px_mp6))))))
def px_ftb : List (Nat × Nat × Nat × Nat × Nat) := [
  (5, 9, 5, 0, 33), (1, 9, 1, 0, 50), (4, 119, 1, 0, 51), (0, 133, 1, 0, 52), (8, 363, 1, 0, 53), (1, 15, 1, 1, 54), (8, 161, 1, 1, 55), (4, 132, 1, 1, 56), (0, 127, 1, 1, 57), (2, 216, 1, 1, 58), (1, 18, 1, 2, 59), (8, 158, 1, 2, 60), (0, 80, 1, 2, 61), (2, 213, 1, 2, 62), (1, 21, 1, 3, 63), (4, 113, 1, 3, 64), (0, 86, 1, 3, 65), (2, 194, 1, 3, 66), (8, 325, 1, 3, 67), (1, 25, 1, 4, 68), (4, 110, 1, 4, 69), (0, 83, 1, 4, 70), (8, 183, 1, 4, 71), (2, 222, 1, 4, 72), (0, 12, 0, 0, 86), (4, 50, 0, 0, 87), (8, 131, 0, 0, 88), (2, 88, 0, 0, 89), (0, 18, 0, 1, 90), (8, 106, 0, 1, 91), (2, 106, 0, 1, 92), (0, 22, 0, 2, 93), (8, 109, 0, 2, 94), (0, 25, 0, 3, 95), (2, 121, 0, 3, 96), (8, 287, 0, 3, 97), (0, 30, 0, 4, 98), (8, 209, 0, 4, 99), (0, 34, 0, 5, 100), (8, 174, 0, 5, 101), (0, 37, 0, 6, 102), (8, 103, 0, 6, 103), (2, 77, 0, 6, 104), (0, 41, 0, 7, 105), (8, 155, 0, 7, 106), (2, 145, 0, 7, 107), (0, 44, 0, 8, 108), (2, 118, 0, 8, 109), (8, 284, 0, 8, 110), (0, 47, 0, 9, 111), (8, 202, 0, 9, 112), (0, 50, 0, 10, 113), (8, 245, 0, 10, 114), (2, 225, 0, 10, 115), (0, 53, 0, 11, 116), (8, 186, 0, 11, 117), (2, 236, 0, 11, 118), (0, 56, 0, 12, 119), (8, 189, 0, 12, 120), (0, 59, 0, 13, 121), (0, 62, 0, 14, 122), (7, 13, 7, 0, 164), (7, 17, 7, 1, 165), (7, 21, 7, 2, 166), (7, 25, 7, 3, 167), (8, 357, 7, 3, 168), (4, 9, 4, 0, 189), (8, 223, 4, 0, 190), (4, 39, 4, 1, 191), (4, 43, 4, 2, 192), (4, 46, 4, 3, 193), (4, 18, 4, 4, 194), (4, 25, 4, 5, 195), (4, 29, 4, 6, 196), (4, 33, 4, 7, 197), (4, 36, 4, 8, 198), (2, 11, 2, 0, 226), (8, 293, 2, 0, 227), (2, 15, 2, 1, 228), (8, 299, 2, 1, 229), (2, 19, 2, 2, 230), (8, 322, 2, 2, 231), (2, 65, 2, 3, 232), (2, 74, 2, 4, 233), (2, 22, 2, 5, 234), (2, 25, 2, 6, 235), (2, 28, 2, 7, 236), (2, 31, 2, 8, 237), (2, 34, 2, 9, 238), (2, 37, 2, 10, 239), (2, 40, 2, 11, 240), (2, 43, 2, 12, 241), (2, 46, 2, 13, 242), (2, 49, 2, 14, 243), (2, 52, 2, 15, 244), (2, 56, 2, 16, 245), (2, 59, 2, 17, 246), (2, 62, 2, 18, 247), (6, 26, 6, 0, 303), (5, 20, 6, 0, 304), (6, 30, 6, 1, 305), (5, 23, 6, 1, 306), (6, 33, 6, 2, 307), (5, 17, 6, 2, 308), (6, 7, 6, 3, 309), (3, 108, 6, 3, 310), (6, 13, 6, 4, 311), (3, 68, 6, 4, 312), (8, 229, 6, 4, 313), (0, 140, 6, 4, 314), (6, 16, 6, 5, 315), (4, 71, 6, 5, 316), (3, 174, 6, 5, 317), (3, 14, 3, 0, 331), (8, 213, 3, 0, 332), (3, 20, 3, 1, 333), (8, 239, 3, 1, 334), (3, 46, 3, 2, 335), (3, 24, 3, 3, 336), (3, 27, 3, 4, 337), (3, 31, 3, 5, 338), (3, 34, 3, 6, 339), (3, 37, 3, 7, 340), (3, 40, 3, 8, 341), (3, 43, 3, 9, 342), (8, 12, 8, 0, 364), (8, 21, 8, 1, 365), (8, 25, 8, 2, 366), (8, 28, 8, 3, 367), (8, 32, 8, 4, 368), (8, 39, 8, 5, 369), (8, 48, 8, 6, 370), (8, 57, 8, 7, 371), (8, 61, 8, 8, 372), (8, 70, 8, 9, 373), (8, 74, 8, 10, 374), (8, 77, 8, 11, 375), (8, 81, 8, 12, 376), (8, 84, 8, 13, 377), (8, 87, 8, 14, 378), (9, 177, 9, 0, 1206), (9, 180, 9, 1, 1207), (9, 7, 9, 2, 1208), (9, 13, 9, 3, 1209), (9, 16, 9, 4, 1210), (9, 19, 9, 5, 1211), (9, 23, 9, 6, 1212), (9, 26, 9, 7, 1213), (9, 183, 9, 8, 1214), (9, 29, 9, 9, 1215), (9, 32, 9, 10, 1216), (9, 267, 9, 11, 1217), (9, 35, 9, 12, 1218), (9, 264, 9, 13, 1219), (9, 283, 9, 14, 1220), (9, 273, 9, 15, 1221), (9, 296, 9, 16, 1222), (9, 286, 9, 17, 1223), (9, 38, 9, 18, 1224), (9, 276, 9, 19, 1225), (9, 353, 9, 20, 1226), (9, 407, 9, 21, 1227), (9, 42, 9, 22, 1228), (9, 313, 9, 23, 1229), (9, 45, 9, 24, 1230), (9, 48, 9, 25, 1231), (9, 344, 9, 26, 1232), (9, 51, 9, 27, 1233), (9, 54, 9, 28, 1234), (9, 316, 9, 29, 1235), (9, 338, 9, 30, 1236), (9, 81, 9, 31, 1237), (9, 93, 9, 32, 1238), (9, 104, 9, 33, 1239), (9, 430, 9, 34, 1240), (9, 107, 9, 35, 1241), (9, 110, 9, 36, 1242), (9, 113, 9, 37, 1243), (9, 427, 9, 38, 1244), (9, 441, 9, 39, 1245), (9, 447, 9, 40, 1246), (9, 116, 9, 41, 1247), (9, 119, 9, 42, 1248), (9, 122, 9, 43, 1249), (9, 125, 9, 44, 1250), (9, 128, 9, 45, 1251), (9, 131, 9, 46, 1252), (9, 134, 9, 47, 1253), (9, 137, 9, 48, 1254), (9, 140, 9, 49, 1255), (9, 143, 9, 50, 1256), (9, 146, 9, 51, 1257), (9, 149, 9, 52, 1258), (9, 162, 9, 53, 1259), (9, 165, 9, 54, 1260), (9, 573, 9, 55, 1261), (9, 576, 9, 56, 1262), (9, 168, 9, 57, 1263), (9, 570, 9, 58, 1264), (9, 594, 9, 59, 1265), (9, 171, 9, 60, 1266), (9, 174, 9, 61, 1267)]
def px_ctb : List (Nat × Nat × Nat × Nat × Nat × Nat) := [
  (25, 9, 5, 1, 0, 21), (8, 3, 0, 0, 0, 24), (8, 11, 6, 2, 0, 29), (5, 3, 0, 0, 0, 32), (8, 18, 5, 3, 1, 40), (0, 3, 0, 0, 0, 43), (0, 11, 6, 4, 0, 46), (1, 3, 0, 0, 0, 49), (8, 38, 5, 5, 0, 157), (7, 3, 0, 0, 0, 160), (7, 28, 6, 4, 0, 163), (8, 45, 5, 6, 3, 181), (4, 3, 0, 0, 0, 184), (4, 17, 6, 4, 0, 186), (4, 24, 5, 5, 0, 188), (8, 54, 5, 7, 2, 220), (2, 3, 0, 0, 0, 223), (2, 71, 5, 3, 1, 225), (8, 67, 5, 8, 1, 290), (3, 3, 0, 0, 0, 293), (3, 11, 5, 9, 2, 296), (6, 1, 0, 0, 0, 299), (6, 20, 2, 0, 2, 300), (25, 13, 7, 10, 2, 410), (8, 91, 3, 11, 1, 414), (8, 95, 3, 12, 3, 417), (8, 99, 7, 13, 1, 420), (8, 112, 7, 14, 0, 424), (8, 115, 7, 15, 1, 428), (25, 18, 7, 16, 2, 432), (8, 118, 7, 17, 1, 436), (0, 76, 4, 12, 3, 440), (8, 121, 7, 18, 1, 441), (0, 93, 7, 19, 2, 445), (0, 115, 3, 20, 2, 449), (0, 89, 4, 21, 2, 452), (8, 380, 2, 2, 1, 455), (0, 70, 1, 0, 5, 458), (0, 97, 7, 22, 1, 461), (0, 136, 7, 23, 1, 465), (0, 143, 7, 24, 1, 470), (0, 146, 7, 25, 4, 474), (5, 27, 3, 26, 3, 479), (8, 124, 7, 27, 2, 485), (0, 102, 7, 28, 1, 489), (0, 105, 4, 29, 3, 493), (8, 372, 2, 1, 2, 496), (8, 377, 2, 0, 2, 499), (25, 22, 7, 30, 2, 500), (8, 128, 3, 31, 1, 504), (8, 135, 7, 32, 2, 507), (8, 140, 7, 33, 1, 511), (8, 143, 7, 34, 1, 515), (0, 109, 7, 35, 1, 519), (0, 112, 7, 33, 1, 523), (8, 146, 7, 28, 1, 524), (25, 26, 7, 36, 2, 525), (8, 149, 3, 37, 1, 529), (8, 152, 7, 38, 1, 532), (25, 30, 7, 39, 2, 536), (8, 164, 7, 40, 1, 540), (8, 167, 7, 41, 1, 544), (0, 121, 7, 42, 1, 548), (0, 124, 7, 32, 2, 552), (8, 171, 7, 43, 1, 553), (25, 34, 7, 44, 2, 557), (25, 38, 7, 45, 2, 561), (8, 177, 3, 46, 1, 565), (8, 180, 7, 47, 1, 568), (25, 42, 7, 48, 5, 572), (8, 192, 7, 49, 1, 576), (25, 47, 7, 50, 1, 580), (25, 52, 7, 51, 0, 584), (8, 195, 7, 52, 1, 588), (8, 274, 3, 53, 1, 592), (8, 366, 1, 0, 5, 595), (25, 57, 7, 54, 0, 596), (25, 61, 7, 55, 0, 600), (8, 198, 7, 56, 0, 604), (8, 205, 7, 57, 2, 608), (3, 50, 4, 29, 3, 612), (3, 54, 7, 58, 0, 613), (3, 57, 7, 59, 0, 617), (3, 177, 3, 60, 1, 621), (3, 181, 2, 1, 2, 624), (3, 60, 7, 61, 0, 625), (3, 78, 7, 62, 1, 631), (3, 187, 7, 63, 0, 635), (20, 335, 7, 64, 0, 639), (3, 192, 7, 65, 1, 645), (20, 492, 7, 66, 0, 649), (20, 495, 3, 67, 2, 653), (21, 9, 3, 68, 2, 656), (20, 1059, 3, 69, 3, 661), (3, 71, 7, 70, 0, 683), (3, 82, 7, 71, 1, 687), (3, 86, 7, 72, 1, 691), (3, 111, 7, 73, 2, 695), (3, 121, 7, 74, 1, 699), (3, 154, 7, 75, 1, 703), (3, 159, 7, 76, 1, 707), (3, 64, 7, 77, 1, 711), (3, 142, 7, 78, 1, 715), (3, 145, 7, 79, 1, 719), (3, 129, 7, 80, 2, 723), (3, 164, 7, 81, 0, 727), (3, 167, 7, 82, 0, 732), (3, 150, 7, 83, 2, 738), (3, 92, 7, 84, 1, 744), (3, 100, 7, 85, 1, 748), (3, 103, 7, 86, 0, 754), (3, 117, 4, 12, 3, 758), (3, 114, 7, 87, 1, 760), (3, 124, 7, 88, 1, 764), (3, 135, 7, 89, 1, 768), (3, 132, 7, 90, 1, 775), (6, 36, 4, 12, 3, 779), (8, 217, 7, 91, 0, 781), (6, 42, 5, 9, 2, 786), (6, 45, 1, 0, 5, 787), (25, 65, 7, 92, 0, 789), (8, 226, 7, 93, 0, 793), (4, 55, 7, 94, 1, 797), (1, 28, 1, 0, 5, 801), (4, 59, 7, 95, 1, 802), (7, 33, 1, 0, 5, 806), (7, 29, 7, 94, 1, 807), (8, 232, 7, 96, 2, 808), (4, 62, 7, 24, 1, 812), (4, 68, 7, 97, 1, 813), (4, 75, 7, 98, 1, 817), (4, 116, 7, 99, 0, 821), (4, 122, 1, 0, 5, 825), (4, 128, 7, 40, 1, 826), (4, 79, 7, 25, 4, 827), (4, 85, 7, 100, 1, 828), (4, 89, 7, 101, 1, 833), (0, 152, 7, 17, 1, 837), (0, 155, 7, 18, 1, 838), (0, 158, 7, 27, 2, 839), (0, 161, 2, 1, 2, 840), (4, 92, 7, 102, 2, 841), (0, 166, 4, 31, 1, 845), (0, 169, 4, 11, 1, 846), (4, 96, 7, 103, 1, 847), (4, 99, 7, 104, 2, 851), (0, 172, 4, 37, 1, 855), (0, 175, 7, 40, 1, 856), (0, 178, 7, 38, 1, 857), (4, 102, 7, 105, 0, 858), (0, 181, 7, 41, 1, 862), (0, 185, 7, 106, 1, 863), (0, 130, 7, 43, 1, 867), (4, 106, 7, 107, 1, 868), (8, 236, 7, 108, 0, 872), (25, 69, 7, 109, 0, 876), (25, 73, 7, 110, 0, 880), (25, 77, 7, 111, 1, 884), (8, 242, 7, 23, 1, 888), (25, 81, 7, 112, 1, 889), (8, 248, 7, 100, 1, 893), (8, 252, 7, 101, 1, 894), (8, 255, 7, 113, 2, 895), (8, 360, 7, 107, 1, 899), (25, 85, 7, 114, 2, 900), (8, 258, 7, 102, 2, 904), (25, 89, 7, 115, 1, 905), (8, 261, 7, 103, 1, 909), (25, 93, 7, 116, 2, 910), (8, 264, 7, 104, 2, 914), (25, 97, 7, 117, 0, 915), (8, 267, 7, 105, 0, 919), (25, 101, 7, 118, 0, 920), (8, 270, 7, 119, 1, 924), (25, 105, 7, 120, 5, 928), (8, 277, 7, 121, 4, 932), (2, 92, 7, 32, 2, 936), (2, 97, 7, 18, 1, 937), (2, 80, 7, 27, 2, 938), (2, 101, 7, 122, 1, 939), (2, 109, 2, 1, 2, 944), (8, 281, 7, 123, 1, 945), (2, 114, 7, 124, 0, 949), (25, 109, 7, 125, 3, 953), (25, 114, 7, 126, 0, 957), (25, 118, 7, 127, 1, 961), (8, 290, 7, 128, 0, 965), (2, 84, 7, 129, 1, 969), (2, 124, 7, 130, 1, 973), (2, 127, 7, 131, 2, 977), (25, 122, 7, 132, 1, 981), (8, 296, 7, 133, 0, 985), (2, 130, 7, 134, 1, 989), (2, 133, 3, 20, 2, 993), (2, 139, 2, 0, 2, 994), (25, 126, 7, 135, 1, 995), (8, 302, 7, 136, 0, 999), (2, 142, 7, 41, 1, 1003), (2, 148, 7, 43, 1, 1004), (2, 151, 3, 137, 1, 1005), (2, 156, 7, 138, 2, 1011), (8, 305, 7, 139, 1, 1016), (2, 160, 7, 140, 2, 1020), (25, 130, 7, 141, 1, 1024), (8, 308, 7, 142, 1, 1028), (2, 163, 7, 42, 1, 1032), (2, 166, 7, 33, 1, 1033), (2, 169, 7, 35, 1, 1034), (25, 134, 7, 143, 1, 1035), (8, 311, 7, 144, 0, 1039), (2, 172, 7, 145, 0, 1043), (2, 175, 7, 146, 0, 1047), (2, 186, 7, 147, 3, 1051), (2, 179, 7, 148, 1, 1056), (2, 183, 3, 149, 1, 1061), (8, 314, 3, 137, 1, 1064), (25, 138, 7, 150, 2, 1065), (8, 319, 7, 151, 1, 1069), (2, 190, 7, 152, 1, 1073), (0, 66, 7, 94, 1, 1077), (25, 142, 7, 153, 2, 1078), (8, 328, 7, 154, 1, 1082), (2, 197, 7, 34, 1, 1086), (2, 200, 4, 21, 2, 1087), (2, 203, 7, 155, 1, 1088), (2, 206, 7, 156, 2, 1092), (8, 331, 7, 157, 1, 1096), (2, 210, 7, 158, 1, 1100), (25, 146, 7, 159, 2, 1104), (8, 334, 7, 160, 2, 1108), (2, 219, 7, 106, 1, 1112), (25, 150, 7, 161, 1, 1113), (8, 337, 7, 162, 1, 1117), (2, 228, 7, 99, 0, 1121), (25, 154, 7, 163, 2, 1122), (8, 342, 7, 164, 2, 1127), (2, 231, 3, 165, 2, 1131), (25, 159, 7, 166, 2, 1136), (8, 347, 7, 152, 1, 1141), (8, 351, 7, 167, 2, 1142), (0, 188, 3, 168, 1, 1146), (0, 191, 7, 101, 1, 1152), (0, 194, 7, 105, 0, 1153), (25, 163, 7, 169, 2, 1154), (25, 167, 7, 170, 1, 1158), (25, 171, 7, 171, 1, 1162), (25, 175, 7, 172, 1, 1166), (8, 354, 7, 99, 0, 1170), (25, 179, 7, 173, 0, 1171), (25, 12, 5, 174, 0, 1177), (9, 1, 0, 0, 0, 1180), (25, 104, 7, 175, 0, 1393), (9, 186, 7, 176, 1, 1397), (9, 194, 7, 177, 1, 1401), (25, 170, 7, 178, 1, 1405), (9, 197, 3, 179, 3, 1409), (25, 174, 7, 180, 1, 1412), (9, 201, 7, 181, 1, 1416), (25, 17, 7, 182, 2, 1420), (9, 210, 3, 183, 1, 1424), (25, 21, 7, 184, 2, 1429), (9, 216, 7, 185, 1, 1433), (9, 221, 7, 186, 1, 1438), (9, 453, 7, 187, 0, 1442), (9, 456, 7, 188, 1, 1447), (9, 462, 7, 189, 2, 1451), (9, 450, 7, 190, 1, 1455), (9, 444, 7, 191, 2, 1459), (9, 248, 7, 192, 1, 1463), (9, 433, 7, 193, 3, 1467), (9, 224, 7, 194, 2, 1473), (9, 459, 7, 195, 1, 1477), (9, 237, 3, 196, 2, 1481), (9, 466, 3, 197, 3, 1484), (25, 25, 7, 198, 2, 1487), (9, 228, 3, 199, 1, 1491), (9, 231, 7, 200, 1, 1495), (9, 234, 7, 201, 1, 1500), (9, 472, 7, 202, 1, 1504), (25, 29, 7, 203, 2, 1508), (9, 240, 3, 204, 1, 1512), (9, 245, 7, 205, 1, 1517), (25, 33, 7, 206, 2, 1521), (9, 251, 7, 207, 2, 1525), (9, 254, 7, 208, 2, 1529), (9, 475, 7, 209, 1, 1533), (25, 37, 7, 210, 2, 1537), (25, 41, 7, 211, 2, 1541), (9, 261, 7, 212, 2, 1547), (25, 56, 7, 213, 0, 1551), (25, 60, 7, 214, 0, 1555), (25, 46, 7, 215, 5, 1559), (9, 270, 7, 216, 1, 1563), (25, 51, 7, 217, 1, 1567), (25, 72, 7, 218, 0, 1571), (25, 64, 7, 219, 0, 1575), (9, 415, 7, 220, 1, 1579), (9, 404, 7, 221, 0, 1583), (9, 280, 7, 222, 0, 1587), (9, 290, 3, 223, 1, 1591), (9, 293, 3, 224, 1, 1594), (9, 418, 7, 225, 0, 1601), (9, 334, 7, 226, 1, 1605), (9, 309, 7, 227, 1, 1609), (9, 410, 7, 228, 1, 1613), (9, 394, 7, 229, 0, 1617), (9, 341, 7, 230, 2, 1622), (9, 347, 7, 231, 1, 1626), (9, 350, 7, 232, 1, 1630), (9, 377, 7, 233, 0, 1634), (9, 356, 7, 234, 0, 1638), (9, 360, 7, 235, 0, 1642), (9, 365, 7, 236, 3, 1647), (9, 322, 7, 237, 2, 1651), (9, 371, 7, 238, 2, 1656), (9, 397, 7, 239, 1, 1660), (9, 319, 3, 240, 1, 1664), (9, 380, 7, 241, 1, 1667), (9, 383, 7, 242, 0, 1671), (9, 386, 7, 243, 0, 1675), (9, 401, 7, 244, 0, 1683), (9, 421, 7, 245, 0, 1690), (25, 80, 7, 246, 1, 1694), (9, 424, 7, 247, 1, 1698), (25, 84, 7, 248, 1, 1702), (9, 484, 7, 249, 1, 1706), (9, 478, 7, 250, 1, 1710), (9, 190, 7, 251, 1, 1714), (9, 481, 7, 252, 1, 1718), (25, 88, 7, 253, 2, 1722), (9, 487, 7, 254, 2, 1726), (25, 92, 7, 255, 1, 1730), (9, 490, 7, 256, 1, 1734), (25, 96, 7, 257, 2, 1738), (9, 493, 7, 258, 2, 1742), (25, 100, 7, 259, 0, 1746), (9, 499, 7, 260, 0, 1750), (9, 496, 7, 261, 0, 1754), (25, 108, 7, 262, 5, 1758), (9, 510, 7, 263, 1, 1762), (9, 503, 7, 264, 3, 1767), (9, 507, 7, 265, 1, 1771), (9, 513, 7, 266, 3, 1775), (25, 113, 7, 267, 3, 1779), (25, 117, 7, 268, 0, 1783), (25, 121, 7, 269, 1, 1787), (9, 524, 7, 270, 0, 1791), (9, 527, 7, 271, 1, 1795), (9, 521, 7, 272, 3, 1799), (9, 517, 3, 273, 2, 1803), (25, 125, 7, 274, 1, 1806), (9, 530, 7, 275, 1, 1810), (25, 129, 7, 276, 1, 1814), (9, 537, 7, 277, 0, 1818), (9, 534, 7, 278, 1, 1823), (25, 133, 7, 279, 1, 1827), (25, 137, 7, 280, 1, 1831), (9, 540, 7, 281, 2, 1835), (9, 544, 3, 282, 1, 1840), (25, 141, 7, 283, 2, 1843), (25, 145, 7, 284, 2, 1847), (9, 553, 7, 285, 1, 1851), (9, 550, 7, 286, 2, 1855), (9, 547, 3, 287, 3, 1859), (25, 149, 7, 288, 2, 1862), (25, 153, 7, 289, 1, 1866), (9, 556, 7, 290, 0, 1870), (25, 158, 7, 291, 2, 1874), (25, 68, 7, 292, 0, 1879), (9, 585, 7, 293, 0, 1883), (9, 561, 7, 294, 1, 1887), (9, 588, 7, 295, 1, 1894), (9, 579, 7, 296, 1, 1898), (9, 582, 7, 297, 3, 1902), (9, 591, 7, 298, 1, 1906), (25, 76, 7, 299, 0, 1910), (25, 162, 7, 300, 2, 1914), (9, 603, 7, 301, 1, 1918), (25, 166, 7, 302, 2, 1925), (25, 178, 7, 303, 1, 1930), (25, 182, 7, 304, 0, 1936)]
def px_ktb : List (Nat × Nat × Int × Nat) := [(0, 101, -2000000000, 469), (5, 26, -2000000000, 478), (4, 88, -2000000000, 832), (2, 105, 1000000, 943), (23, 265, 1431655765, 1008), (23, 266, 858993459, 1009), (23, 267, 252645135, 1010), (2, 159, -1000000, 1015), (2, 178, 65535, 1055), (2, 182, 65536, 1060), (8, 346, 1000000, 1140), (9, 502, 100000000, 1766), (9, 533, -100000000, 1822), (9, 543, 65536, 1839)]
def px_k2tb : List (Nat × Nat × Int × Nat) := [(5, 35, -2000000000, 482), (5, 31, 1000000000, 483), (5, 33, -1000000000, 484), (8, 340, -1, 1126), (2, 234, 1000000000000, 1134), (2, 239, 10, 1135), (0, 198, 1103, 1149), (0, 200, 12345, 1150), (0, 202, 1000003, 1151), (9, 57, 769604, 1181), (9, 59, 8869, 1182), (9, 61, 6801509, 1183), (9, 63, 56377, 1184), (9, 65, 18935, 1185), (9, 67, 116807086, 1186), (9, 69, 18596, 1187), (9, 71, 78501, 1188), (9, 73, 7935150, 1189), (9, 75, 654625076, 1190), (9, 77, 278194, 1191), (9, 79, 441828, 1192), (9, 85, 146885, 1193), (9, 87, 404362868, 1194), (9, 89, 559300916, 1195), (9, 91, 2491499, 1196), (9, 96, 658548179, 1197), (9, 98, 146611, 1198), (9, 100, 79727987, 1199), (9, 102, 67155, 1200), (9, 152, 641271301, 1201), (9, 154, 19764, 1202), (9, 156, 555910248, 1203), (9, 158, 755083, 1204), (9, 160, 525939, 1205), (9, 208, 2, 1427), (9, 214, 9, 1428), (9, 219, 18, 1437), (9, 303, -1, 1446), (9, 437, -1000000000, 1471), (9, 439, 1000000000, 1472), (9, 204, 15, 1494), (9, 470, 60, 1499), (9, 206, 7, 1515), (9, 243, 99, 1516), (9, 257, 999, 1545), (9, 259, 10, 1546), (9, 299, 32, 1597), (9, 301, 96, 1598), (9, 305, 1000000, 1599), (9, 307, 48, 1600), (9, 375, 14836, 1621), (9, 363, 1000, 1646), (9, 369, 5, 1655), (9, 326, 20, 1679), (9, 328, 24, 1680), (9, 330, 25, 1681), (9, 332, 27, 1682), (9, 390, 1476, 1687), (9, 392, 498, 1688), (9, 413, 294, 1689), (9, 559, 1000000000000, 1878), (9, 564, 486, 1891), (9, 566, 52, 1892), (9, 568, 21279923, 1893), (9, 597, 1103, 1922), (9, 599, 12345, 1923), (9, 601, 1000003, 1924), (9, 606, 3, 1929), (9, 608, 14, 1934), (9, 610, 16, 1935)]
def px_cltb : List (Nat × Nat × Nat × Nat) := [(25, 7, 8, 19), (8, 9, 5, 27), (8, 16, 0, 38), (0, 9, 1, 44), (0, 28, 6, 84), (8, 36, 7, 155), (7, 11, 1, 161), (8, 43, 4, 179), (4, 15, 1, 185), (4, 22, 7, 187), (8, 52, 2, 218), (2, 69, 0, 224), (8, 65, 3, 288), (3, 9, 6, 294), (6, 8, 6, 785), (25, 10, 9, 1175)]
def px_stb : List (Nat × Nat × String × Nat) := [(3, 74, "preach scrape walk sit pass", 629), (3, 76, "stains does blacks bars", 630), (3, 172, "hour done latest pulpit black red blue green spirit", 731), (3, 170, "word hue force away row column red blue green spirit hour mood", 736), (3, 162, "*/%", 737), (3, 157, "+-", 742), (3, 90, "of", 743), (3, 96, "at", 752), (3, 98, "times", 753), (3, 106, "if", 759), (3, 140, "not", 772), (3, 148, "<>=", 773), (3, 138, "and", 774), (3, 127, "or", 780)]
def px_tyL : List (List Nat) := [[2, 2, 2, 2, 2, 2, 0, 0, 0, 0, 0, 0, 0, 2, 2], [2, 2, 2, 0, 0], [2, 0, 0, 2, 2, 2, 2, 2, 2, 2, 2, 2, 2, 2, 2, 2, 0, 0, 0], [2, 0, 2, 0, 3, 0, 0, 0, 0, 0], [0, 2, 2, 2, 2, 2, 2, 0, 0], [2], [2, 2, 2, 0, 0, 3], [2, 2, 0, 0], [2, 2, 2, 2, 2, 2, 2, 2, 2, 2, 2, 0, 0, 0, 3], [0, 0, 2, 2, 2, 2, 2, 2, 0, 2, 2, 0, 2, 0, 0, 0, 0, 1, 0, 3, 3, 0, 2, 0, 2, 2, 0, 2, 2, 0, 0, 2, 2, 2, 0, 2, 2, 2, 3, 1, 1, 2, 2, 2, 2, 2, 2, 2, 2, 2, 2, 2, 2, 2, 2, 0, 0, 0, 3, 1, 2, 0]]
