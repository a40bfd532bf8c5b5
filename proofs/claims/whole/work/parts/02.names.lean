def RX0 : String := "GalleyConvoy$Bale"
def TX0 : u_T := fun k => match k with
  | 0 => ("GalleyConvoy$Bale", "owner", "I", true)
  | 1 => ("GalleyConvoy$Bale", "from", "I", true)
  | 2 => ("GalleyConvoy$Bale", "to", "I", true)
  | 3 => ("GalleyConvoy$Bale", "kind", "I", true)
  | 4 => ("GalleyConvoy$Bale", "room", "I", true)
  | 5 => ("GalleyConvoy$Bale", "weight", "I", true)
  | 6 => ("GalleyConvoy$Bale", "worth", "I", true)
  | 7 => ("GalleyConvoy$Bale", "freight", "I", true)
  | 8 => ("GalleyConvoy$Bale", "made", "I", true)
  | 9 => ("GalleyConvoy$Bale", "state", "I", false)
  | 10 => ("GalleyConvoy$Bale", "galley", "I", false)
  | 11 => ("GalleyConvoy$Bale", "since", "I", false)
  | _ => ("GalleyConvoy$Bale", "rank", "I", false)
def tyX0 : Nat → FieldType := fun k => match k with
  | 0 => .int
  | 1 => .int
  | 2 => .int
  | 3 => .int
  | 4 => .int
  | 5 => .int
  | 6 => .int
  | 7 => .int
  | 8 => .int
  | 9 => .int
  | 10 => .int
  | 11 => .int
  | _ => .int
theorem nmX0 : ∀ a, a < 13 → ∀ b, b < 13 → a ≠ b → (TX0 a).2.1 ≠ (TX0 b).2.1 := by decide +kernel
theorem tyX0_ok : ∀ k, k < 13 → parseFieldDescriptor (TX0 k).2.2.1 = some (tyX0 k) := by decide +kernel
abbrev cX0_init : ByteArray := prog_2_method_1_code
def yX0_init : MethodName := ⟨RX0, "<init>", "(IIIII)V"⟩
abbrev cX0_isAboard : ByteArray := prog_2_method_2_code
def yX0_isAboard : MethodName := ⟨RX0, "isAboard", "(LGalleyConvoy$Galley;)Z"⟩
abbrev cX0_turn : ByteArray := prog_2_method_3_code
def yX0_turn : MethodName := ⟨RX0, "turn", "(II)V"⟩
abbrev cX0_tell : ByteArray := prog_2_method_4_code
def yX0_tell : MethodName := ⟨RX0, "tell", "(I)I"⟩
def RX1 : String := "GalleyConvoy$Galley"
def TX1 : u_T := fun k => match k with
  | 0 => ("GalleyConvoy$Galley", "number", "I", true)
  | 1 => ("GalleyConvoy$Galley", "room", "I", true)
  | 2 => ("GalleyConvoy$Galley", "bears", "I", true)
  | 3 => ("GalleyConvoy$Galley", "speed", "I", true)
  | 4 => ("GalleyConvoy$Galley", "hull", "I", true)
  | 5 => ("GalleyConvoy$Galley", "parts", "[I", true)
  | 6 => ("GalleyConvoy$Galley", "highestBid", "I", false)
  | 7 => ("GalleyConvoy$Galley", "bidder", "I", false)
  | 8 => ("GalleyConvoy$Galley", "isLet", "Z", false)
  | 9 => ("GalleyConvoy$Galley", "state", "I", false)
  | 10 => ("GalleyConvoy$Galley", "port", "I", false)
  | 11 => ("GalleyConvoy$Galley", "since", "I", false)
  | 12 => ("GalleyConvoy$Galley", "way", "I", false)
  | 13 => ("GalleyConvoy$Galley", "aboard", "I", false)
  | 14 => ("GalleyConvoy$Galley", "roomAboard", "I", false)
  | 15 => ("GalleyConvoy$Galley", "weightAboard", "I", false)
  | 16 => ("GalleyConvoy$Galley", "heavyAboard", "I", false)
  | _ => ("GalleyConvoy$Galley", "freights", "I", false)
def tyX1 : Nat → FieldType := fun k => match k with
  | 0 => .int
  | 1 => .int
  | 2 => .int
  | 3 => .int
  | 4 => .int
  | 5 => .array .int
  | 6 => .int
  | 7 => .int
  | 8 => .boolean
  | 9 => .int
  | 10 => .int
  | 11 => .int
  | 12 => .int
  | 13 => .int
  | 14 => .int
  | 15 => .int
  | 16 => .int
  | _ => .int
theorem nmX1 : ∀ a, a < 18 → ∀ b, b < 18 → a ≠ b → (TX1 a).2.1 ≠ (TX1 b).2.1 := by decide +kernel
theorem tyX1_ok : ∀ k, k < 18 → parseFieldDescriptor (TX1 k).2.2.1 = some (tyX1 k) := by decide +kernel
abbrev cX1_init : ByteArray := prog_3_method_1_code
def yX1_init : MethodName := ⟨RX1, "<init>", "(IIIII)V"⟩
abbrev cX1_letTo : ByteArray := prog_3_method_2_code
def yX1_letTo : MethodName := ⟨RX1, "letTo", "(I)V"⟩
abbrev cX1_comeTo : ByteArray := prog_3_method_3_code
def yX1_comeTo : MethodName := ⟨RX1, "comeTo", "(II)V"⟩
abbrev cX1_putToSea : ByteArray := prog_3_method_4_code
def yX1_putToSea : MethodName := ⟨RX1, "putToSea", "(I)V"⟩
abbrev cX1_canTake : ByteArray := prog_3_method_5_code
def yX1_canTake : MethodName := ⟨RX1, "canTake", "(LGalleyConvoy$Bale;)Z"⟩
abbrev cX1_load : ByteArray := prog_3_method_6_code
def yX1_load : MethodName := ⟨RX1, "load", "(LGalleyConvoy$Bale;)V"⟩
abbrev cX1_unload : ByteArray := prog_3_method_7_code
def yX1_unload : MethodName := ⟨RX1, "unload", "(LGalleyConvoy$Bale;)V"⟩
abbrev cX1_change : ByteArray := prog_3_method_8_code
def yX1_change : MethodName := ⟨RX1, "change", "(LGalleyConvoy$Bale;I)V"⟩
abbrev cX1_tell : ByteArray := prog_3_method_9_code
def yX1_tell : MethodName := ⟨RX1, "tell", "(I)I"⟩
def RX2 : String := "GalleyConvoy$Reader"
def TX2 : u_T := fun k => match k with
  | 0 => ("GalleyConvoy$Reader", "tape", "LGalleyConvoy$Tape;", true)
  | 1 => ("GalleyConvoy$Reader", "place", "I", false)
  | 2 => ("GalleyConvoy$Reader", "token", "I", false)
  | 3 => ("GalleyConvoy$Reader", "tokenStart", "I", false)
  | 4 => ("GalleyConvoy$Reader", "tokenValue", "I", false)
  | 5 => ("GalleyConvoy$Reader", "steps", "[I", true)
  | _ => ("GalleyConvoy$Reader", "stepCount", "I", false)
def tyX2 : Nat → FieldType := fun k => match k with
  | 0 => .object "GalleyConvoy$Tape"
  | 1 => .int
  | 2 => .int
  | 3 => .int
  | 4 => .int
  | 5 => .array .int
  | _ => .int
theorem nmX2 : ∀ a, a < 7 → ∀ b, b < 7 → a ≠ b → (TX2 a).2.1 ≠ (TX2 b).2.1 := by decide +kernel
theorem tyX2_ok : ∀ k, k < 7 → parseFieldDescriptor (TX2 k).2.2.1 = some (tyX2 k) := by decide +kernel
abbrev cX2_init : ByteArray := prog_4_method_1_code
def yX2_init : MethodName := ⟨RX2, "<init>", "()V"⟩
abbrev cX2_read : ByteArray := prog_4_method_2_code
def yX2_read : MethodName := ⟨RX2, "read", "()I"⟩
abbrev cX2_stepsRead : ByteArray := prog_4_method_3_code
def yX2_stepsRead : MethodName := ⟨RX2, "stepsRead", "()[I"⟩
abbrev cX2_readEither : ByteArray := prog_4_method_4_code
def yX2_readEither : MethodName := ⟨RX2, "readEither", "(I)Z"⟩
abbrev cX2_readBoth : ByteArray := prog_4_method_5_code
def yX2_readBoth : MethodName := ⟨RX2, "readBoth", "(I)Z"⟩
abbrev cX2_readDenied : ByteArray := prog_4_method_6_code
def yX2_readDenied : MethodName := ⟨RX2, "readDenied", "(I)Z"⟩
abbrev cX2_readCompared : ByteArray := prog_4_method_7_code
def yX2_readCompared : MethodName := ⟨RX2, "readCompared", "(I)Z"⟩
abbrev cX2_readSum : ByteArray := prog_4_method_8_code
def yX2_readSum : MethodName := ⟨RX2, "readSum", "(I)Z"⟩
abbrev cX2_readProduct : ByteArray := prog_4_method_9_code
def yX2_readProduct : MethodName := ⟨RX2, "readProduct", "(I)Z"⟩
abbrev cX2_readOperand : ByteArray := prog_4_method_10_code
def yX2_readOperand : MethodName := ⟨RX2, "readOperand", "(I)Z"⟩
abbrev cX2_readBracket : ByteArray := prog_4_method_11_code
def yX2_readBracket : MethodName := ⟨RX2, "readBracket", "(I)Z"⟩
abbrev cX2_readNegated : ByteArray := prog_4_method_12_code
def yX2_readNegated : MethodName := ⟨RX2, "readNegated", "(I)Z"⟩
abbrev cX2_putStep : ByteArray := prog_4_method_13_code
def yX2_putStep : MethodName := ⟨RX2, "putStep", "(I)V"⟩
abbrev cX2_nextToken : ByteArray := prog_4_method_14_code
def yX2_nextToken : MethodName := ⟨RX2, "nextToken", "()V"⟩
abbrev cX2_takeNumber : ByteArray := prog_4_method_15_code
def yX2_takeNumber : MethodName := ⟨RX2, "takeNumber", "()V"⟩
abbrev cX2_takeWord : ByteArray := prog_4_method_16_code
def yX2_takeWord : MethodName := ⟨RX2, "takeWord", "()V"⟩
abbrev cX2_isWord : ByteArray := prog_4_method_17_code
def yX2_isWord : MethodName := ⟨RX2, "isWord", "(I)Z"⟩
abbrev cX2_isDigit : ByteArray := prog_4_method_18_code
def yX2_isDigit : MethodName := ⟨RX2, "isDigit", "(I)Z"⟩
abbrev cX2_isLetter : ByteArray := prog_4_method_19_code
def yX2_isLetter : MethodName := ⟨RX2, "isLetter", "(I)Z"⟩
def RX3 : String := "GalleyConvoy$Tape"
def TX3 : u_T := fun k => match k with
  | 0 => ("GalleyConvoy$Tape", "bytes", "[I", true)
  | _ => ("GalleyConvoy$Tape", "length", "I", false)
def tyX3 : Nat → FieldType := fun k => match k with
  | 0 => .array .int
  | _ => .int
theorem nmX3 : ∀ a, a < 2 → ∀ b, b < 2 → a ≠ b → (TX3 a).2.1 ≠ (TX3 b).2.1 := by decide +kernel
theorem tyX3_ok : ∀ k, k < 2 → parseFieldDescriptor (TX3 k).2.2.1 = some (tyX3 k) := by decide +kernel
abbrev cX3_init : ByteArray := prog_5_method_1_code
def yX3_init : MethodName := ⟨RX3, "<init>", "()V"⟩
abbrev cX3_append : ByteArray := prog_5_method_2_code
def yX3_append : MethodName := ⟨RX3, "append", "(II)V"⟩
abbrev cX3_at : ByteArray := prog_5_method_3_code
def yX3_at : MethodName := ⟨RX3, "at", "(I)I"⟩
def RX4 : String := "GalleyConvoy$Teller"
def TX4 : u_T := fun k => match k with
  | 0 => ("GalleyConvoy$Teller", "names", "[I", true)
  | _ => ("GalleyConvoy$Teller", "stack", "[I", true)
def tyX4 : Nat → FieldType := fun k => match k with
  | 0 => .array .int
  | _ => .array .int
theorem nmX4 : ∀ a, a < 2 → ∀ b, b < 2 → a ≠ b → (TX4 a).2.1 ≠ (TX4 b).2.1 := by decide +kernel
theorem tyX4_ok : ∀ k, k < 2 → parseFieldDescriptor (TX4 k).2.2.1 = some (tyX4 k) := by decide +kernel
abbrev cX4_init : ByteArray := prog_6_method_1_code
def yX4_init : MethodName := ⟨RX4, "<init>", "()V"⟩
abbrev cX4_lookAtGalley : ByteArray := prog_6_method_2_code
def yX4_lookAtGalley : MethodName := ⟨RX4, "lookAtGalley", "(LGalleyConvoy$Galley;II)V"⟩
abbrev cX4_lookAtBale : ByteArray := prog_6_method_3_code
def yX4_lookAtBale : MethodName := ⟨RX4, "lookAtBale", "(LGalleyConvoy$Bale;I)V"⟩
abbrev cX4_lookAtOther : ByteArray := prog_6_method_4_code
def yX4_lookAtOther : MethodName := ⟨RX4, "lookAtOther", "(LGalleyConvoy$Galley;)V"⟩
abbrev cX4_workOut : ByteArray := prog_6_method_5_code
def yX4_workOut : MethodName := ⟨RX4, "workOut", "([I)I"⟩
abbrev cX4_turned : ByteArray := prog_6_method_6_code
def yX4_turned : MethodName := ⟨RX4, "turned", "(II)I"⟩
abbrev cX4_joined : ByteArray := prog_6_method_7_code
def yX4_joined : MethodName := ⟨RX4, "joined", "(III)I"⟩
def RX5 : String := "GalleyConvoy$Vote"
def TX5 : u_T := fun k => match k with
  | 0 => ("GalleyConvoy$Vote", "kind", "I", true)
  | 1 => ("GalleyConvoy$Vote", "told", "I", true)
  | _ => ("GalleyConvoy$Vote", "steps", "[I", true)
def tyX5 : Nat → FieldType := fun k => match k with
  | 0 => .int
  | 1 => .int
  | _ => .array .int
theorem nmX5 : ∀ a, a < 3 → ∀ b, b < 3 → a ≠ b → (TX5 a).2.1 ≠ (TX5 b).2.1 := by decide +kernel
theorem tyX5_ok : ∀ k, k < 3 → parseFieldDescriptor (TX5 k).2.2.1 = some (tyX5 k) := by decide +kernel
abbrev cX5_init : ByteArray := prog_7_method_1_code
def yX5_init : MethodName := ⟨RX5, "<init>", "(II[I)V"⟩
def RX6 : String := "GalleyConvoy"
def TX6 : u_T := fun k => match k with
  | 0 => ("GalleyConvoy", "purses", "[I", true)
  | 1 => ("GalleyConvoy", "chest", "I", false)
  | 2 => ("GalleyConvoy", "outside", "I", false)
  | 3 => ("GalleyConvoy", "legs", "[I", true)
  | 4 => ("GalleyConvoy", "fars", "[I", true)
  | 5 => ("GalleyConvoy", "portCount", "I", false)
  | 6 => ("GalleyConvoy", "winds", "[I", true)
  | 7 => ("GalleyConvoy", "galleys", "Ljava/util/ArrayList;", true)
  | 8 => ("GalleyConvoy", "bales", "Ljava/util/ArrayList;", true)
  | 9 => ("GalleyConvoy", "votes", "Ljava/util/ArrayList;", true)
  | 10 => ("GalleyConvoy", "reader", "LGalleyConvoy$Reader;", true)
  | 11 => ("GalleyConvoy", "teller", "LGalleyConvoy$Teller;", true)
  | 12 => ("GalleyConvoy", "ranked", "Ljava/util/ArrayList;", true)
  | _ => ("GalleyConvoy", "today", "I", false)
def tyX6 : Nat → FieldType := fun k => match k with
  | 0 => .array .int
  | 1 => .int
  | 2 => .int
  | 3 => .array .int
  | 4 => .array .int
  | 5 => .int
  | 6 => .array .int
  | 7 => .object "java/util/ArrayList"
  | 8 => .object "java/util/ArrayList"
  | 9 => .object "java/util/ArrayList"
  | 10 => .object "GalleyConvoy$Reader"
  | 11 => .object "GalleyConvoy$Teller"
  | 12 => .object "java/util/ArrayList"
  | _ => .int
theorem nmX6 : ∀ a, a < 14 → ∀ b, b < 14 → a ≠ b → (TX6 a).2.1 ≠ (TX6 b).2.1 := by decide +kernel
theorem tyX6_ok : ∀ k, k < 14 → parseFieldDescriptor (TX6 k).2.2.1 = some (tyX6 k) := by decide +kernel
abbrev cX6_init : ByteArray := prog_1_method_1_code
def yX6_init : MethodName := ⟨RX6, "<init>", "()V"⟩
abbrev cX6_purse : ByteArray := prog_1_method_2_code
def yX6_purse : MethodName := ⟨RX6, "purse", "(II)I"⟩
abbrev cX6_port : ByteArray := prog_1_method_3_code
def yX6_port : MethodName := ⟨RX6, "port", "(I)I"⟩
abbrev cX6_wind : ByteArray := prog_1_method_4_code
def yX6_wind : MethodName := ⟨RX6, "wind", "(II)I"⟩
abbrev cX6_galley : ByteArray := prog_1_method_5_code
def yX6_galley : MethodName := ⟨RX6, "galley", "(IIII)I"⟩
abbrev cX6_bid : ByteArray := prog_1_method_6_code
def yX6_bid : MethodName := ⟨RX6, "bid", "(III)I"⟩
abbrev cX6_let : ByteArray := prog_1_method_7_code
def yX6_let : MethodName := ⟨RX6, "let", "(I)I"⟩
abbrev cX6_part : ByteArray := prog_1_method_8_code
def yX6_part : MethodName := ⟨RX6, "part", "(IIII)I"⟩
abbrev cX6_parts : ByteArray := prog_1_method_9_code
def yX6_parts : MethodName := ⟨RX6, "parts", "(II)I"⟩
abbrev cX6_bale : ByteArray := prog_1_method_10_code
def yX6_bale : MethodName := ⟨RX6, "bale", "(IIII)I"⟩
abbrev cX6_about : ByteArray := prog_1_method_11_code
def yX6_about : MethodName := ⟨RX6, "about", "(II)I"⟩
abbrev cX6_feed : ByteArray := prog_1_method_12_code
def yX6_feed : MethodName := ⟨RX6, "feed", "(II)I"⟩
abbrev cX6_vote : ByteArray := prog_1_method_13_code
def yX6_vote : MethodName := ⟨RX6, "vote", "(I)I"⟩
abbrev cX6_known : ByteArray := prog_1_method_14_code
def yX6_known : MethodName := ⟨RX6, "known", "(II)I"⟩
abbrev cX6_says : ByteArray := prog_1_method_15_code
def yX6_says : MethodName := ⟨RX6, "says", "(III)I"⟩
abbrev cX6_start : ByteArray := prog_1_method_16_code
def yX6_start : MethodName := ⟨RX6, "start", "(I)I"⟩
abbrev cX6_day : ByteArray := prog_1_method_17_code
def yX6_day : MethodName := ⟨RX6, "day", "(I)I"⟩
abbrev cX6_toss : ByteArray := prog_1_method_18_code
def yX6_toss : MethodName := ⟨RX6, "toss", "(II)I"⟩
abbrev cX6_ship : ByteArray := prog_1_method_19_code
def yX6_ship : MethodName := ⟨RX6, "ship", "(II)I"⟩
abbrev cX6_count : ByteArray := prog_1_method_20_code
def yX6_count : MethodName := ⟨RX6, "count", "(I)I"⟩
abbrev cX6_coins : ByteArray := prog_1_method_21_code
def yX6_coins : MethodName := ⟨RX6, "coins", "(I)I"⟩
abbrev cX6_within : ByteArray := prog_1_method_22_code
def yX6_within : MethodName := ⟨RX6, "within", "(III)Z"⟩
abbrev cX6_isPerson : ByteArray := prog_1_method_23_code
def yX6_isPerson : MethodName := ⟨RX6, "isPerson", "(I)Z"⟩
abbrev cX6_isVoteKind : ByteArray := prog_1_method_24_code
def yX6_isVoteKind : MethodName := ⟨RX6, "isVoteKind", "(I)Z"⟩
abbrev cX6_isRoute : ByteArray := prog_1_method_25_code
def yX6_isRoute : MethodName := ⟨RX6, "isRoute", "(I)Z"⟩
abbrev cX6_isSize : ByteArray := prog_1_method_26_code
def yX6_isSize : MethodName := ⟨RX6, "isSize", "(I)Z"⟩
abbrev cX6_isPrice : ByteArray := prog_1_method_27_code
def yX6_isPrice : MethodName := ⟨RX6, "isPrice", "(I)Z"⟩
abbrev cX6_galleyOf : ByteArray := prog_1_method_28_code
def yX6_galleyOf : MethodName := ⟨RX6, "galleyOf", "(I)LGalleyConvoy$Galley;"⟩
abbrev cX6_baleOf : ByteArray := prog_1_method_29_code
def yX6_baleOf : MethodName := ⟨RX6, "baleOf", "(I)LGalleyConvoy$Bale;"⟩
abbrev cX6_allAreHome : ByteArray := prog_1_method_30_code
def yX6_allAreHome : MethodName := ⟨RX6, "allAreHome", "()Z"⟩
abbrev cX6_balesInState : ByteArray := prog_1_method_31_code
def yX6_balesInState : MethodName := ⟨RX6, "balesInState", "(I)I"⟩
abbrev cX6_inForce : ByteArray := prog_1_method_32_code
def yX6_inForce : MethodName := ⟨RX6, "inForce", "(II)I"⟩
abbrev cX6_workedOut : ByteArray := prog_1_method_33_code
def yX6_workedOut : MethodName := ⟨RX6, "workedOut", "(II)I"⟩
abbrev cX6_lookAt : ByteArray := prog_1_method_34_code
def yX6_lookAt : MethodName := ⟨RX6, "lookAt", "(LGalleyConvoy$Galley;)V"⟩
abbrev cX6_goByOneDay : ByteArray := prog_1_method_35_code
def yX6_goByOneDay : MethodName := ⟨RX6, "goByOneDay", "()V"⟩
abbrev cX6_sailOn : ByteArray := prog_1_method_36_code
def yX6_sailOn : MethodName := ⟨RX6, "sailOn", "(LGalleyConvoy$Galley;)V"⟩
abbrev cX6_giveOut : ByteArray := prog_1_method_37_code
def yX6_giveOut : MethodName := ⟨RX6, "giveOut", "(LGalleyConvoy$Bale;LGalleyConvoy$Galley;)V"⟩
abbrev cX6_hasStayed : ByteArray := prog_1_method_38_code
def yX6_hasStayed : MethodName := ⟨RX6, "hasStayed", "(LGalleyConvoy$Galley;)Z"⟩
abbrev cX6_waitsForAnother : ByteArray := prog_1_method_39_code
def yX6_waitsForAnother : MethodName := ⟨RX6, "waitsForAnother", "(LGalleyConvoy$Galley;)Z"⟩
abbrev cX6_leave : ByteArray := prog_1_method_40_code
def yX6_leave : MethodName := ⟨RX6, "leave", "(LGalleyConvoy$Galley;)V"⟩
abbrev cX6_rankForLading : ByteArray := prog_1_method_41_code
def yX6_rankForLading : MethodName := ⟨RX6, "rankForLading", "(LGalleyConvoy$Galley;)V"⟩
abbrev cX6_rank : ByteArray := prog_1_method_42_code
def yX6_rank : MethodName := ⟨RX6, "rank", "(LGalleyConvoy$Bale;I)V"⟩
abbrev cX6_rankAboard : ByteArray := prog_1_method_43_code
def yX6_rankAboard : MethodName := ⟨RX6, "rankAboard", "(LGalleyConvoy$Galley;)I"⟩
abbrev cX6_throwOut : ByteArray := prog_1_method_44_code
def yX6_throwOut : MethodName := ⟨RX6, "throwOut", "(LGalleyConvoy$Galley;I)I"⟩
abbrev cX6_shareLoss : ByteArray := prog_1_method_45_code
def yX6_shareLoss : MethodName := ⟨RX6, "shareLoss", "(II)V"⟩
def RX7 : String := "GalleyConvoyModel"
def TX7 : u_T := fun k => match k with
  | 0 => ("GalleyConvoyModel", "code", "I", false)
  | 1 => ("GalleyConvoyModel", "day", "I", false)
  | 2 => ("GalleyConvoyModel", "purse", "[I", true)
  | 3 => ("GalleyConvoyModel", "chest", "I", false)
  | 4 => ("GalleyConvoyModel", "outside", "I", false)
  | 5 => ("GalleyConvoyModel", "ports", "I", false)
  | 6 => ("GalleyConvoyModel", "leg", "[I", true)
  | 7 => ("GalleyConvoyModel", "far", "[I", true)
  | 8 => ("GalleyConvoyModel", "wind", "[I", true)
  | 9 => ("GalleyConvoyModel", "galleys", "I", false)
  | 10 => ("GalleyConvoyModel", "room", "[I", true)
  | 11 => ("GalleyConvoyModel", "bears", "[I", true)
  | 12 => ("GalleyConvoyModel", "speed", "[I", true)
  | 13 => ("GalleyConvoyModel", "hull", "[I", true)
  | 14 => ("GalleyConvoyModel", "state", "[I", true)
  | 15 => ("GalleyConvoyModel", "portOf", "[I", true)
  | 16 => ("GalleyConvoyModel", "since", "[I", true)
  | 17 => ("GalleyConvoyModel", "way", "[I", true)
  | 18 => ("GalleyConvoyModel", "paid", "[I", true)
  | 19 => ("GalleyConvoyModel", "best", "[I", true)
  | 20 => ("GalleyConvoyModel", "bidder", "[I", true)
  | 21 => ("GalleyConvoyModel", "isLet", "[Z", true)
  | 22 => ("GalleyConvoyModel", "parts", "[I", true)
  | 23 => ("GalleyConvoyModel", "bales", "I", false)
  | 24 => ("GalleyConvoyModel", "owner", "[I", true)
  | 25 => ("GalleyConvoyModel", "from", "[I", true)
  | 26 => ("GalleyConvoyModel", "to", "[I", true)
  | 27 => ("GalleyConvoyModel", "kind", "[I", true)
  | 28 => ("GalleyConvoyModel", "baleRoom", "[I", true)
  | 29 => ("GalleyConvoyModel", "weight", "[I", true)
  | 30 => ("GalleyConvoyModel", "worth", "[I", true)
  | 31 => ("GalleyConvoyModel", "freight", "[I", true)
  | 32 => ("GalleyConvoyModel", "made", "[I", true)
  | 33 => ("GalleyConvoyModel", "baleState", "[I", true)
  | 34 => ("GalleyConvoyModel", "galleyOf", "[I", true)
  | 35 => ("GalleyConvoyModel", "stateDay", "[I", true)
  | 36 => ("GalleyConvoyModel", "tape", "[B", true)
  | 37 => ("GalleyConvoyModel", "taped", "I", false)
  | 38 => ("GalleyConvoyModel", "votes", "I", false)
  | 39 => ("GalleyConvoyModel", "voteKind", "[I", true)
  | 40 => ("GalleyConvoyModel", "voteDay", "[I", true)
  | 41 => ("GalleyConvoyModel", "voteFrom", "[I", true)
  | 42 => ("GalleyConvoyModel", "step", "[I", true)
  | 43 => ("GalleyConvoyModel", "number", "[I", true)
  | 44 => ("GalleyConvoyModel", "laid", "I", false)
  | 45 => ("GalleyConvoyModel", "at", "I", false)
  | 46 => ("GalleyConvoyModel", "tk", "I", false)
  | 47 => ("GalleyConvoyModel", "tkAt", "I", false)
  | 48 => ("GalleyConvoyModel", "tkNumber", "I", false)
  | 49 => ("GalleyConvoyModel", "fault", "I", false)
  | 50 => ("GalleyConvoyModel", "wait", "[I", true)
  | 51 => ("GalleyConvoyModel", "waits", "I", false)
  | 52 => ("GalleyConvoyModel", "pile", "[I", true)
  | 53 => ("GalleyConvoyModel", "wish", "[I", true)
  | _ => ("GalleyConvoyModel", "tried", "[Z", true)
def tyX7 : Nat → FieldType := fun k => match k with
  | 0 => .int
  | 1 => .int
  | 2 => .array .int
  | 3 => .int
  | 4 => .int
  | 5 => .int
  | 6 => .array .int
  | 7 => .array .int
  | 8 => .array .int
  | 9 => .int
  | 10 => .array .int
  | 11 => .array .int
  | 12 => .array .int
  | 13 => .array .int
  | 14 => .array .int
  | 15 => .array .int
  | 16 => .array .int
  | 17 => .array .int
  | 18 => .array .int
  | 19 => .array .int
  | 20 => .array .int
  | 21 => .array .boolean
  | 22 => .array .int
  | 23 => .int
  | 24 => .array .int
  | 25 => .array .int
  | 26 => .array .int
  | 27 => .array .int
  | 28 => .array .int
  | 29 => .array .int
  | 30 => .array .int
  | 31 => .array .int
  | 32 => .array .int
  | 33 => .array .int
  | 34 => .array .int
  | 35 => .array .int
  | 36 => .array .byte
  | 37 => .int
  | 38 => .int
  | 39 => .array .int
  | 40 => .array .int
  | 41 => .array .int
  | 42 => .array .int
  | 43 => .array .int
  | 44 => .int
  | 45 => .int
  | 46 => .int
  | 47 => .int
  | 48 => .int
  | 49 => .int
  | 50 => .array .int
  | 51 => .int
  | 52 => .array .int
  | 53 => .array .int
  | _ => .array .boolean
theorem nmX7 : ∀ a, a < 55 → ∀ b, b < 55 → a ≠ b → (TX7 a).2.1 ≠ (TX7 b).2.1 := by decide +kernel
theorem tyX7_ok : ∀ k, k < 55 → parseFieldDescriptor (TX7 k).2.2.1 = some (tyX7 k) := by decide +kernel
abbrev cX7_init : ByteArray := prog_9_method_1_code
def yX7_init : MethodName := ⟨RX7, "<init>", "()V"⟩
abbrev cX7_in : ByteArray := prog_9_method_3_code
def yX7_in : MethodName := ⟨RX7, "in", "(III)Z"⟩
abbrev cX7_isPerson : ByteArray := prog_9_method_4_code
def yX7_isPerson : MethodName := ⟨RX7, "isPerson", "(I)Z"⟩
abbrev cX7_isPort : ByteArray := prog_9_method_5_code
def yX7_isPort : MethodName := ⟨RX7, "isPort", "(I)Z"⟩
abbrev cX7_isGalley : ByteArray := prog_9_method_6_code
def yX7_isGalley : MethodName := ⟨RX7, "isGalley", "(I)Z"⟩
abbrev cX7_isBale : ByteArray := prog_9_method_7_code
def yX7_isBale : MethodName := ⟨RX7, "isBale", "(I)Z"⟩
abbrev cX7_purse : ByteArray := prog_9_method_8_code
def yX7_purse : MethodName := ⟨RX7, "purse", "(II)I"⟩
abbrev cX7_port : ByteArray := prog_9_method_9_code
def yX7_port : MethodName := ⟨RX7, "port", "(I)I"⟩
abbrev cX7_wind : ByteArray := prog_9_method_10_code
def yX7_wind : MethodName := ⟨RX7, "wind", "(II)I"⟩
abbrev cX7_galley : ByteArray := prog_9_method_11_code
def yX7_galley : MethodName := ⟨RX7, "galley", "(IIII)I"⟩
abbrev cX7_bid : ByteArray := prog_9_method_12_code
def yX7_bid : MethodName := ⟨RX7, "bid", "(III)I"⟩
abbrev cX7_let : ByteArray := prog_9_method_13_code
def yX7_let : MethodName := ⟨RX7, "let", "(I)I"⟩
abbrev cX7_part : ByteArray := prog_9_method_14_code
def yX7_part : MethodName := ⟨RX7, "part", "(IIII)I"⟩
abbrev cX7_parts : ByteArray := prog_9_method_15_code
def yX7_parts : MethodName := ⟨RX7, "parts", "(II)I"⟩
abbrev cX7_bale : ByteArray := prog_9_method_16_code
def yX7_bale : MethodName := ⟨RX7, "bale", "(IIII)I"⟩
abbrev cX7_about : ByteArray := prog_9_method_17_code
def yX7_about : MethodName := ⟨RX7, "about", "(II)I"⟩
abbrev cX7_isOn : ByteArray := prog_9_method_18_code
def yX7_isOn : MethodName := ⟨RX7, "isOn", "(II)Z"⟩
abbrev cX7_roomOn : ByteArray := prog_9_method_19_code
def yX7_roomOn : MethodName := ⟨RX7, "roomOn", "(I)I"⟩
abbrev cX7_weightOn : ByteArray := prog_9_method_20_code
def yX7_weightOn : MethodName := ⟨RX7, "weightOn", "(IZ)I"⟩
abbrev cX7_balesOn : ByteArray := prog_9_method_21_code
def yX7_balesOn : MethodName := ⟨RX7, "balesOn", "(I)I"⟩
abbrev cX7_becomes : ByteArray := prog_9_method_22_code
def yX7_becomes : MethodName := ⟨RX7, "becomes", "(II)V"⟩
abbrev cX7_feed : ByteArray := prog_9_method_23_code
def yX7_feed : MethodName := ⟨RX7, "feed", "(II)I"⟩
abbrev cX7_isLetter : ByteArray := prog_9_method_24_code
def yX7_isLetter : MethodName := ⟨RX7, "isLetter", "(I)Z"⟩
abbrev cX7_isDigit : ByteArray := prog_9_method_25_code
def yX7_isDigit : MethodName := ⟨RX7, "isDigit", "(I)Z"⟩
abbrev cX7_advance : ByteArray := prog_9_method_26_code
def yX7_advance : MethodName := ⟨RX7, "advance", "()V"⟩
abbrev cX7_signOf : ByteArray := prog_9_method_27_code
def yX7_signOf : MethodName := ⟨RX7, "signOf", "(I)I"⟩
abbrev cX7_wordOf : ByteArray := prog_9_method_28_code
def yX7_wordOf : MethodName := ⟨RX7, "wordOf", "(J)I"⟩
abbrev cX7_tight : ByteArray := prog_9_method_29_code
def yX7_tight : MethodName := ⟨RX7, "tight", "(I)I"⟩
abbrev cX7_lay : ByteArray := prog_9_method_30_code
def yX7_lay : MethodName := ⟨RX7, "lay", "(II)V"⟩
abbrev cX7_done : ByteArray := prog_9_method_31_code
def yX7_done : MethodName := ⟨RX7, "done", "(I)V"⟩
abbrev cX7_opened : ByteArray := prog_9_method_32_code
def yX7_opened : MethodName := ⟨RX7, "opened", "()I"⟩
abbrev cX7_isWaiting : ByteArray := prog_9_method_33_code
def yX7_isWaiting : MethodName := ⟨RX7, "isWaiting", "(I)Z"⟩
abbrev cX7_read : ByteArray := prog_9_method_34_code
def yX7_read : MethodName := ⟨RX7, "read", "()I"⟩
abbrev cX7_vote : ByteArray := prog_9_method_35_code
def yX7_vote : MethodName := ⟨RX7, "vote", "(I)I"⟩
abbrev cX7_knownAt : ByteArray := prog_9_method_36_code
def yX7_knownAt : MethodName := ⟨RX7, "knownAt", "(II)I"⟩
abbrev cX7_known : ByteArray := prog_9_method_37_code
def yX7_known : MethodName := ⟨RX7, "known", "(II)I"⟩
abbrev cX7_inPort : ByteArray := prog_9_method_38_code
def yX7_inPort : MethodName := ⟨RX7, "inPort", "(I)I"⟩
abbrev cX7_value : ByteArray := prog_9_method_39_code
def yX7_value : MethodName := ⟨RX7, "value", "(IIII)I"⟩
abbrev cX7_ofBale : ByteArray := prog_9_method_40_code
def yX7_ofBale : MethodName := ⟨RX7, "ofBale", "(II)I"⟩
abbrev cX7_both : ByteArray := prog_9_method_41_code
def yX7_both : MethodName := ⟨RX7, "both", "(III)I"⟩
abbrev cX7_says0 : ByteArray := prog_9_method_42_code
def yX7_says0 : MethodName := ⟨RX7, "says0", "(III)I"⟩
abbrev cX7_says : ByteArray := prog_9_method_43_code
def yX7_says : MethodName := ⟨RX7, "says", "(III)I"⟩
abbrev cX7_start : ByteArray := prog_9_method_44_code
def yX7_start : MethodName := ⟨RX7, "start", "(I)I"⟩
abbrev cX7_day : ByteArray := prog_9_method_45_code
def yX7_day : MethodName := ⟨RX7, "day", "(I)I"⟩
abbrev cX7_sails : ByteArray := prog_9_method_46_code
def yX7_sails : MethodName := ⟨RX7, "sails", "(I)V"⟩
abbrev cX7_givesOut : ByteArray := prog_9_method_47_code
def yX7_givesOut : MethodName := ⟨RX7, "givesOut", "(II)V"⟩
abbrev cX7_leaves : ByteArray := prog_9_method_48_code
def yX7_leaves : MethodName := ⟨RX7, "leaves", "(I)Z"⟩
abbrev cX7_goes : ByteArray := prog_9_method_49_code
def yX7_goes : MethodName := ⟨RX7, "goes", "(I)V"⟩
abbrev cX7_nextBale : ByteArray := prog_9_method_50_code
def yX7_nextBale : MethodName := ⟨RX7, "nextBale", "()I"⟩
abbrev cX7_toss : ByteArray := prog_9_method_51_code
def yX7_toss : MethodName := ⟨RX7, "toss", "(II)I"⟩
abbrev cX7_heaviest : ByteArray := prog_9_method_52_code
def yX7_heaviest : MethodName := ⟨RX7, "heaviest", "(I)I"⟩
abbrev cX7_ship : ByteArray := prog_9_method_53_code
def yX7_ship : MethodName := ⟨RX7, "ship", "(II)I"⟩
abbrev cX7_balesAs : ByteArray := prog_9_method_54_code
def yX7_balesAs : MethodName := ⟨RX7, "balesAs", "(I)I"⟩
abbrev cX7_count : ByteArray := prog_9_method_55_code
def yX7_count : MethodName := ⟨RX7, "count", "(I)I"⟩
abbrev cX7_coins : ByteArray := prog_9_method_56_code
def yX7_coins : MethodName := ⟨RX7, "coins", "(I)I"⟩
def RJx145de : String := "java/io/Serializable"
def RJx8e188 : String := "java/lang/Cloneable"
def RJxab1ab : String := "java/lang/Iterable"
def RJ9 : String := "java/lang/Math"
abbrev cJ9_max_7cf53 : ByteArray := prog_13_method_65_code
def yJ9_max_7cf53 : MethodName := ⟨RJ9, "max", "(II)I"⟩
abbrev cJ9_min_7cf53 : ByteArray := prog_13_method_69_code
def yJ9_min_7cf53 : MethodName := ⟨RJ9, "min", "(II)I"⟩
def RJ0 : String := "java/lang/String"
abbrev cJ0_charAt_5068e : ByteArray := prog_14_method_56_code
def yJ0_charAt_5068e : MethodName := ⟨RJ0, "charAt", "(I)C"⟩
abbrev cJ0_isLatin1_aae02 : ByteArray := prog_14_method_154_code
def yJ0_isLatin1_aae02 : MethodName := ⟨RJ0, "isLatin1", "()Z"⟩
abbrev cJ0_checkIndex_df160 : ByteArray := prog_14_method_155_code
def yJ0_checkIndex_df160 : MethodName := ⟨RJ0, "checkIndex", "(II)V"⟩
def RJ1 : String := "java/lang/StringLatin1"
abbrev cJ1_charAt_3b067 : ByteArray := prog_15_method_2_code
def yJ1_charAt_3b067 : MethodName := ⟨RJ1, "charAt", "([BI)C"⟩
def RJ2 : String := "java/lang/StringUTF16"
abbrev cJ2_getChar_3b067 : ByteArray := prog_16_method_5_code
def yJ2_getChar_3b067 : MethodName := ⟨RJ2, "getChar", "([BI)C"⟩
abbrev cJ2_length_9d52b : ByteArray := prog_16_method_6_code
def yJ2_length_9d52b : MethodName := ⟨RJ2, "length", "([B)I"⟩
abbrev cJ2_charAt_3b067 : ByteArray := prog_16_method_83_code
def yJ2_charAt_3b067 : MethodName := ⟨RJ2, "charAt", "([BI)C"⟩
abbrev cJ2_checkIndex_2214a : ByteArray := prog_16_method_91_code
def yJ2_checkIndex_2214a : MethodName := ⟨RJ2, "checkIndex", "(I[B)V"⟩
def RJ10 : String := "java/lang/System"
def RJxa1e45 : String := "java/util/AbstractCollection"
abbrev cJxa1e45_init_da8c8 : ByteArray := prog_18_method_1_code
def yJxa1e45_init_da8c8 : MethodName := ⟨RJxa1e45, "<init>", "()V"⟩
def RJxc12de : String := "java/util/AbstractList"
abbrev cJxc12de_init_da8c8 : ByteArray := prog_19_method_1_code
def yJxc12de_init_da8c8 : MethodName := ⟨RJxc12de, "<init>", "()V"⟩
def RJx4a65c : String := "java/util/ArrayList"
def TJx4a65c : u_T := fun k => match k with
  | 0 => ("java/util/AbstractList", "modCount", "I", false)
  | 1 => ("java/util/ArrayList", "elementData", "[Ljava/lang/Object;", false)
  | _ => ("java/util/ArrayList", "size", "I", false)
def tyJx4a65c : Nat → FieldType := fun k => match k with
  | 0 => .int
  | 1 => .array (.object "java/lang/Object")
  | _ => .int
theorem nmJx4a65c : ∀ a, a < 3 → ∀ b, b < 3 → a ≠ b → (TJx4a65c a).2.1 ≠ (TJx4a65c b).2.1 := by decide +kernel
theorem tyJx4a65c_ok : ∀ k, k < 3 → parseFieldDescriptor (TJx4a65c k).2.2.1 = some (tyJx4a65c k) := by decide +kernel
abbrev cJx4a65c_init_da8c8 : ByteArray := prog_20_method_2_code
def yJx4a65c_init_da8c8 : MethodName := ⟨RJx4a65c, "<init>", "()V"⟩
abbrev cJx4a65c_grow_92f84 : ByteArray := prog_20_method_6_code
def yJx4a65c_grow_92f84 : MethodName := ⟨RJx4a65c, "grow", "(I)[Ljava/lang/Object;"⟩
abbrev cJx4a65c_grow_d5877 : ByteArray := prog_20_method_7_code
def yJx4a65c_grow_d5877 : MethodName := ⟨RJx4a65c, "grow", "()[Ljava/lang/Object;"⟩
abbrev cJx4a65c_size_8abf5 : ByteArray := prog_20_method_8_code
def yJx4a65c_size_8abf5 : MethodName := ⟨RJx4a65c, "size", "()I"⟩
abbrev cJx4a65c_elementData_915e3 : ByteArray := prog_20_method_18_code
def yJx4a65c_elementData_915e3 : MethodName := ⟨RJx4a65c, "elementData", "(I)Ljava/lang/Object;"⟩
abbrev cJx4a65c_get_915e3 : ByteArray := prog_20_method_20_code
def yJx4a65c_get_915e3 : MethodName := ⟨RJx4a65c, "get", "(I)Ljava/lang/Object;"⟩
abbrev cJx4a65c_add_72be8 : ByteArray := prog_20_method_24_code
def yJx4a65c_add_72be8 : MethodName := ⟨RJx4a65c, "add", "(Ljava/lang/Object;[Ljava/lang/Object;I)V"⟩
abbrev cJx4a65c_add_9ea2d : ByteArray := prog_20_method_25_code
def yJx4a65c_add_9ea2d : MethodName := ⟨RJx4a65c, "add", "(Ljava/lang/Object;)Z"⟩
abbrev cJx4a65c_add_7a177 : ByteArray := prog_20_method_26_code
def yJx4a65c_add_7a177 : MethodName := ⟨RJx4a65c, "add", "(ILjava/lang/Object;)V"⟩
abbrev cJx4a65c_clear_da8c8 : ByteArray := prog_20_method_40_code
def yJx4a65c_clear_da8c8 : MethodName := ⟨RJx4a65c, "clear", "()V"⟩
abbrev cJx4a65c_rangeCheckForAdd_d00df : ByteArray := prog_20_method_45_code
def yJx4a65c_rangeCheckForAdd_d00df : MethodName := ⟨RJx4a65c, "rangeCheckForAdd", "(I)V"⟩
def RJ7 : String := "java/util/Arrays"
abbrev cJ7_fill_53178 : ByteArray := prog_21_method_103_code
def yJ7_fill_53178 : MethodName := ⟨RJ7, "fill", "([II)V"⟩
abbrev cJ7_copyOf_1904c : ByteArray := prog_21_method_119_code
def yJ7_copyOf_1904c : MethodName := ⟨RJ7, "copyOf", "([Ljava/lang/Object;I)[Ljava/lang/Object;"⟩
abbrev cJ7_copyOf_6403c : ByteArray := prog_21_method_120_code
def yJ7_copyOf_6403c : MethodName := ⟨RJ7, "copyOf", "([Ljava/lang/Object;ILjava/lang/Class;)[Ljava/lang/Object;"⟩
abbrev cJ7_copyOf_59c91 : ByteArray := prog_21_method_123_code
def yJ7_copyOf_59c91 : MethodName := ⟨RJ7, "copyOf", "([II)[I"⟩
def RJx5ef63 : String := "java/util/Collection"
def RJxbd725 : String := "java/util/List"
def RJ15 : String := "java/util/Objects"
abbrev cJ15_checkIndex_7cf53 : ByteArray := prog_24_method_17_code
def yJ15_checkIndex_7cf53 : MethodName := ⟨RJ15, "checkIndex", "(II)I"⟩
def RJxf0a74 : String := "java/util/RandomAccess"
def RJxa66e6 : String := "java/util/SequencedCollection"
def RJ8 : String := "jdk/internal/util/ArraysSupport"
abbrev cJ8_newLength_cabcc : ByteArray := prog_27_method_27_code
def yJ8_newLength_cabcc : MethodName := ⟨RJ8, "newLength", "(III)I"⟩
abbrev cJ8_hugeLength_7cf53 : ByteArray := prog_27_method_28_code
def yJ8_hugeLength_7cf53 : MethodName := ⟨RJ8, "hugeLength", "(II)I"⟩
def RJ3 : String := "jdk/internal/util/Preconditions"
abbrev cJ3_checkIndex_8e157 : ByteArray := prog_28_method_11_code
def yJ3_checkIndex_8e157 : MethodName := ⟨RJ3, "checkIndex", "(IILjava/util/function/BiFunction;)I"⟩
def RL : String := "GalleyConvoyLaw"
abbrev cL_law : ByteArray := code
def yL_law : MethodName := ⟨RL, "law", "([I)Z"⟩

/-! the classes whose objects the worlds hold, by number -/
def RR : Nat → String := fun c => match c with
  | 0 => RX0 | 1 => RX1 | 2 => RX2 | 3 => RX3 | 4 => RX4 | 5 => RX5 | 6 => RX6 | 7 => RX7 | _ => RJx4a65c
def TT : Nat → u_T := fun c => match c with
  | 0 => TX0 | 1 => TX1 | 2 => TX2 | 3 => TX3 | 4 => TX4 | 5 => TX5 | 6 => TX6 | 7 => TX7 | _ => TJx4a65c
def tyT : Nat → Nat → FieldType := fun c => match c with
  | 0 => tyX0 | 1 => tyX1 | 2 => tyX2 | 3 => tyX3 | 4 => tyX4 | 5 => tyX5 | 6 => tyX6 | 7 => tyX7 | _ => tyJx4a65c
def nF : Nat → Nat := fun c => match c with
  | 0 => 13 | 1 => 18 | 2 => 7 | 3 => 2 | 4 => 2 | 5 => 3 | 6 => 14 | 7 => 55 | _ => 3
def isI (c k : Nat) : Bool := match tyT c k with
  | .int => true | .boolean => true | _ => false
def CL : List vw_C := (List.range 9).map fun c => (RR c, TT c, nF c)
theorem CL_at {c : Nat} (h : c < 9) : CL[c]? = some (RR c, TT c, nF c) := by
  unfold CL
  rw [List.getElem?_map, List.getElem?_range h]
  rfl
theorem cls9 {P : Nat → Prop} (h0 : P 0) (h1 : P 1) (h2 : P 2) (h3 : P 3) (h4 : P 4) (h5 : P 5) (h6 : P 6) (h7 : P 7) (h8 : P 8) : ∀ c, c < 9 → P c := by
  intro c hc
  rcases (show c = 0 ∨ c = 1 ∨ c = 2 ∨ c = 3 ∨ c = 4 ∨ c = 5 ∨ c = 6 ∨ c = 7 ∨ c = 8 by omega) with h | h | h | h | h | h | h | h | h <;> subst h <;> assumption
theorem cls_nm : ∀ c, c < 9 → ∀ a, a < nF c → ∀ b, b < nF c → a ≠ b → (TT c a).2.1 ≠ (TT c b).2.1 := cls9 nmX0 nmX1 nmX2 nmX3 nmX4 nmX5 nmX6 nmX7 nmJx4a65c
theorem cls_ty : ∀ c, c < 9 → ∀ k, k < nF c → parseFieldDescriptor (TT c k).2.2.1 = some (tyT c k) := cls9 tyX0_ok tyX1_ok tyX2_ok tyX3_ok tyX4_ok tyX5_ok tyX6_ok tyX7_ok tyJx4a65c_ok
set_option maxRecDepth 20000 in
theorem cls_in_0 : ∀ w ∈ u_ws (RR 0) (TT 0) (nF 0), w ∈ TBL := by
  have h : u_ws (RR 0) (TT 0) (nF 0) = ([476, 478, 480, 482, 484, 486, 488, 490, 492, 494, 496, 498, 500] : List Nat).filterMap (fun i => lw_tbl[i]?) ∧ (u_ws (RR 0) (TT 0) (nF 0)).all goodWord = true := by decide +kernel
  intro w hw
  have hg := List.all_eq_true.mp h.2 w hw
  rw [h.1] at hw
  obtain ⟨i, -, hi⟩ := List.mem_filterMap.mp hw
  exact tbl_in i hi hg
set_option maxRecDepth 20000 in
theorem cls_in_1 : ∀ w ∈ u_ws (RR 1) (TT 1) (nF 1), w ∈ TBL := by
  have h : u_ws (RR 1) (TT 1) (nF 1) = ([307, 309, 311, 313, 315, 317, 319, 321, 323, 325, 327, 329, 331, 333, 335, 337, 339, 341] : List Nat).filterMap (fun i => lw_tbl[i]?) ∧ (u_ws (RR 1) (TT 1) (nF 1)).all goodWord = true := by decide +kernel
  intro w hw
  have hg := List.all_eq_true.mp h.2 w hw
  rw [h.1] at hw
  obtain ⟨i, -, hi⟩ := List.mem_filterMap.mp hw
  exact tbl_in i hi hg
set_option maxRecDepth 20000 in
theorem cls_in_2 : ∀ w ∈ u_ws (RR 2) (TT 2) (nF 2), w ∈ TBL := by
  have h : u_ws (RR 2) (TT 2) (nF 2) = ([149, 151, 153, 155, 157, 159, 161] : List Nat).filterMap (fun i => lw_tbl[i]?) ∧ (u_ws (RR 2) (TT 2) (nF 2)).all goodWord = true := by decide +kernel
  intro w hw
  have hg := List.all_eq_true.mp h.2 w hw
  rw [h.1] at hw
  obtain ⟨i, -, hi⟩ := List.mem_filterMap.mp hw
  exact tbl_in i hi hg
set_option maxRecDepth 20000 in
theorem cls_in_3 : ∀ w ∈ u_ws (RR 3) (TT 3) (nF 3), w ∈ TBL := by
  have h : u_ws (RR 3) (TT 3) (nF 3) = ([136, 138] : List Nat).filterMap (fun i => lw_tbl[i]?) ∧ (u_ws (RR 3) (TT 3) (nF 3)).all goodWord = true := by decide +kernel
  intro w hw
  have hg := List.all_eq_true.mp h.2 w hw
  rw [h.1] at hw
  obtain ⟨i, -, hi⟩ := List.mem_filterMap.mp hw
  exact tbl_in i hi hg
set_option maxRecDepth 20000 in
theorem cls_in_4 : ∀ w ∈ u_ws (RR 4) (TT 4) (nF 4), w ∈ TBL := by
  have h : u_ws (RR 4) (TT 4) (nF 4) = ([172, 174] : List Nat).filterMap (fun i => lw_tbl[i]?) ∧ (u_ws (RR 4) (TT 4) (nF 4)).all goodWord = true := by decide +kernel
  intro w hw
  have hg := List.all_eq_true.mp h.2 w hw
  rw [h.1] at hw
  obtain ⟨i, -, hi⟩ := List.mem_filterMap.mp hw
  exact tbl_in i hi hg
set_option maxRecDepth 20000 in
theorem cls_in_5 : ∀ w ∈ u_ws (RR 5) (TT 5) (nF 5), w ∈ TBL := by
  have h : u_ws (RR 5) (TT 5) (nF 5) = ([667, 669, 671] : List Nat).filterMap (fun i => lw_tbl[i]?) ∧ (u_ws (RR 5) (TT 5) (nF 5)).all goodWord = true := by decide +kernel
  intro w hw
  have hg := List.all_eq_true.mp h.2 w hw
  rw [h.1] at hw
  obtain ⟨i, -, hi⟩ := List.mem_filterMap.mp hw
  exact tbl_in i hi hg
set_option maxRecDepth 20000 in
theorem cls_in_6 : ∀ w ∈ u_ws (RR 6) (TT 6) (nF 6), w ∈ TBL := by
  have h : u_ws (RR 6) (TT 6) (nF 6) = ([191, 193, 195, 197, 199, 201, 203, 205, 207, 209, 211, 213, 215, 217] : List Nat).filterMap (fun i => lw_tbl[i]?) ∧ (u_ws (RR 6) (TT 6) (nF 6)).all goodWord = true := by decide +kernel
  intro w hw
  have hg := List.all_eq_true.mp h.2 w hw
  rw [h.1] at hw
  obtain ⟨i, -, hi⟩ := List.mem_filterMap.mp hw
  exact tbl_in i hi hg
set_option maxRecDepth 20000 in
theorem cls_in_7 : ∀ w ∈ u_ws (RR 7) (TT 7) (nF 7), w ∈ TBL := by
  have h : u_ws (RR 7) (TT 7) (nF 7) = ([905, 907, 909, 911, 913, 915, 917, 919, 921, 923, 925, 927, 929, 931, 933, 935, 937, 939, 941, 943, 945, 947, 949, 951, 953, 955, 957, 959, 961, 963, 965, 967, 969, 971, 973, 975, 977, 979, 981, 983, 985, 987, 989, 991, 993, 995, 997, 999, 1001, 1003, 1005, 1007, 1009, 1011, 1013] : List Nat).filterMap (fun i => lw_tbl[i]?) ∧ (u_ws (RR 7) (TT 7) (nF 7)).all goodWord = true := by decide +kernel
  intro w hw
  have hg := List.all_eq_true.mp h.2 w hw
  rw [h.1] at hw
  obtain ⟨i, -, hi⟩ := List.mem_filterMap.mp hw
  exact tbl_in i hi hg
set_option maxRecDepth 20000 in
theorem cls_in_8 : ∀ w ∈ u_ws (RR 8) (TT 8) (nF 8), w ∈ TBL := by
  have h : u_ws (RR 8) (TT 8) (nF 8) = ([116, 112, 114] : List Nat).filterMap (fun i => lw_tbl[i]?) ∧ (u_ws (RR 8) (TT 8) (nF 8)).all goodWord = true := by decide +kernel
  intro w hw
  have hg := List.all_eq_true.mp h.2 w hw
  rw [h.1] at hw
  obtain ⟨i, -, hi⟩ := List.mem_filterMap.mp hw
  exact tbl_in i hi hg
theorem cls_in : ∀ c, c < 9 → ∀ w ∈ u_ws (RR c) (TT c) (nF c), w ∈ TBL := cls9 cls_in_0 cls_in_1 cls_in_2 cls_in_3 cls_in_4 cls_in_5 cls_in_6 cls_in_7 cls_in_8
