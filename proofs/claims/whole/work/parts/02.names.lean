def RX0 : String := "PocketBorders$AuntWays"
def TX0 : u_T := fun k => match k with
  | _ => ("", "", "", false)
def tyX0 : Nat → FieldType := fun k => match k with
  | _ => .int
theorem nmX0 : ∀ a, a < 0 → ∀ b, b < 0 → a ≠ b → (TX0 a).2.1 ≠ (TX0 b).2.1 := by decide +kernel
theorem tyX0_ok : ∀ k, k < 0 → parseFieldDescriptor (TX0 k).2.2.1 = some (tyX0 k) := by decide +kernel
abbrev cX0_init : ByteArray := prog_2_method_1_code
def yX0_init : MethodName := ⟨RX0, "<init>", "()V"⟩
abbrev cX0_taken : ByteArray := prog_2_method_2_code
def yX0_taken : MethodName := ⟨RX0, "taken", "(I[I)I"⟩
abbrev cX0_finds : ByteArray := prog_2_method_3_code
def yX0_finds : MethodName := ⟨RX0, "finds", "(I)I"⟩
def RX1 : String := "PocketBorders$Family"
def TX1 : u_T := fun k => match k with
  | 0 => ("PocketBorders$Family", "ways", "[LPocketBorders$PersonWays;", true)
  | 1 => ("PocketBorders$Family", "worths", "[I", true)
  | 2 => ("PocketBorders$Family", "kinds", "[I", true)
  | 3 => ("PocketBorders$Family", "ages", "[I", true)
  | 4 => ("PocketBorders$Family", "pockets", "[I", true)
  | 5 => ("PocketBorders$Family", "cousins", "[I", true)
  | 6 => ("PocketBorders$Family", "losts", "[I", true)
  | 7 => ("PocketBorders$Family", "people", "I", false)
  | 8 => ("PocketBorders$Family", "burned", "I", false)
  | _ => ("PocketBorders$Family", "year", "I", false)
def tyX1 : Nat → FieldType := fun k => match k with
  | 0 => .array (.object "PocketBorders$PersonWays")
  | 1 => .array .int
  | 2 => .array .int
  | 3 => .array .int
  | 4 => .array .int
  | 5 => .array .int
  | 6 => .array .int
  | 7 => .int
  | 8 => .int
  | _ => .int
theorem nmX1 : ∀ a, a < 10 → ∀ b, b < 10 → a ≠ b → (TX1 a).2.1 ≠ (TX1 b).2.1 := by decide +kernel
theorem tyX1_ok : ∀ k, k < 10 → parseFieldDescriptor (TX1 k).2.2.1 = some (tyX1 k) := by decide +kernel
abbrev cX1_init : ByteArray := prog_3_method_1_code
def yX1_init : MethodName := ⟨RX1, "<init>", "([LPocketBorders$PersonWays;)V"⟩
abbrev cX1_becomes : ByteArray := prog_3_method_2_code
def yX1_becomes : MethodName := ⟨RX1, "becomes", "(LPocketBorders$Family;)V"⟩
abbrev cX1_addPerson : ByteArray := prog_3_method_3_code
def yX1_addPerson : MethodName := ⟨RX1, "addPerson", "(I)I"⟩
abbrev cX1_has : ByteArray := prog_3_method_4_code
def yX1_has : MethodName := ⟨RX1, "has", "(II)Z"⟩
abbrev cX1_shownBy : ByteArray := prog_3_method_5_code
def yX1_shownBy : MethodName := ⟨RX1, "shownBy", "(I)I"⟩
abbrev cX1_takenFrom : ByteArray := prog_3_method_6_code
def yX1_takenFrom : MethodName := ⟨RX1, "takenFrom", "(I)I"⟩
abbrev cX1_foundNextBy : ByteArray := prog_3_method_7_code
def yX1_foundNextBy : MethodName := ⟨RX1, "foundNextBy", "(I)I"⟩
abbrev cX1_holdBorder : ByteArray := prog_3_method_8_code
def yX1_holdBorder : MethodName := ⟨RX1, "holdBorder", "(I)I"⟩
abbrev cX1_passYears : ByteArray := prog_3_method_9_code
def yX1_passYears : MethodName := ⟨RX1, "passYears", "(I)V"⟩
abbrev cX1_pocketWorth : ByteArray := prog_3_method_10_code
def yX1_pocketWorth : MethodName := ⟨RX1, "pocketWorth", "(I)I"⟩
abbrev cX1_worthOfAllPockets : ByteArray := prog_3_method_11_code
def yX1_worthOfAllPockets : MethodName := ⟨RX1, "worthOfAllPockets", "()I"⟩
abbrev cX1_theOldest : ByteArray := prog_3_method_12_code
def yX1_theOldest : MethodName := ⟨RX1, "theOldest", "()I"⟩
abbrev cX1_ownedThings : ByteArray := prog_3_method_13_code
def yX1_ownedThings : MethodName := ⟨RX1, "ownedThings", "()I"⟩
abbrev cX1_lostByAll : ByteArray := prog_3_method_14_code
def yX1_lostByAll : MethodName := ⟨RX1, "lostByAll", "()I"⟩
abbrev cX1_agesOfAll : ByteArray := prog_3_method_15_code
def yX1_agesOfAll : MethodName := ⟨RX1, "agesOfAll", "()I"⟩
abbrev cX1_thingsInPockets : ByteArray := prog_3_method_16_code
def yX1_thingsInPockets : MethodName := ⟨RX1, "thingsInPockets", "()I"⟩
def RX2 : String := "PocketBorders$HiderWays"
def TX2 : u_T := fun k => match k with
  | _ => ("", "", "", false)
def tyX2 : Nat → FieldType := fun k => match k with
  | _ => .int
theorem nmX2 : ∀ a, a < 0 → ∀ b, b < 0 → a ≠ b → (TX2 a).2.1 ≠ (TX2 b).2.1 := by decide +kernel
theorem tyX2_ok : ∀ k, k < 0 → parseFieldDescriptor (TX2 k).2.2.1 = some (tyX2 k) := by decide +kernel
abbrev cX2_init : ByteArray := prog_4_method_1_code
def yX2_init : MethodName := ⟨RX2, "<init>", "()V"⟩
abbrev cX2_shows : ByteArray := prog_4_method_2_code
def yX2_shows : MethodName := ⟨RX2, "shows", "(II[I)I"⟩
def RX3 : String := "PocketBorders$PersonWays"
def TX3 : u_T := fun k => match k with
  | _ => ("", "", "", false)
def tyX3 : Nat → FieldType := fun k => match k with
  | _ => .int
theorem nmX3 : ∀ a, a < 0 → ∀ b, b < 0 → a ≠ b → (TX3 a).2.1 ≠ (TX3 b).2.1 := by decide +kernel
theorem tyX3_ok : ∀ k, k < 0 → parseFieldDescriptor (TX3 k).2.2.1 = some (tyX3 k) := by decide +kernel
abbrev cX3_init : ByteArray := prog_5_method_1_code
def yX3_init : MethodName := ⟨RX3, "<init>", "()V"⟩
abbrev cX3_shows : ByteArray := prog_5_method_2_code
def yX3_shows : MethodName := ⟨RX3, "shows", "(II[I)I"⟩
abbrev cX3_taken : ByteArray := prog_5_method_3_code
def yX3_taken : MethodName := ⟨RX3, "taken", "(I[I)I"⟩
abbrev cX3_finds : ByteArray := prog_5_method_4_code
def yX3_finds : MethodName := ⟨RX3, "finds", "(I)I"⟩
def RX4 : String := "PocketBorders$SeriousWays"
def TX4 : u_T := fun k => match k with
  | _ => ("", "", "", false)
def tyX4 : Nat → FieldType := fun k => match k with
  | _ => .int
theorem nmX4 : ∀ a, a < 0 → ∀ b, b < 0 → a ≠ b → (TX4 a).2.1 ≠ (TX4 b).2.1 := by decide +kernel
theorem tyX4_ok : ∀ k, k < 0 → parseFieldDescriptor (TX4 k).2.2.1 = some (tyX4 k) := by decide +kernel
abbrev cX4_init : ByteArray := prog_6_method_1_code
def yX4_init : MethodName := ⟨RX4, "<init>", "()V"⟩
abbrev cX4_taken : ByteArray := prog_6_method_2_code
def yX4_taken : MethodName := ⟨RX4, "taken", "(I[I)I"⟩
abbrev cX4_finds : ByteArray := prog_6_method_3_code
def yX4_finds : MethodName := ⟨RX4, "finds", "(I)I"⟩
def RX5 : String := "PocketBorders$Sheet"
def TX5 : u_T := fun k => match k with
  | 0 => ("PocketBorders$Sheet", "numbers", "[J", true)
  | 1 => ("PocketBorders$Sheet", "bits", "I", false)
  | _ => ("PocketBorders$Sheet", "size", "I", false)
def tyX5 : Nat → FieldType := fun k => match k with
  | 0 => .array .long
  | 1 => .int
  | _ => .int
theorem nmX5 : ∀ a, a < 3 → ∀ b, b < 3 → a ≠ b → (TX5 a).2.1 ≠ (TX5 b).2.1 := by decide +kernel
theorem tyX5_ok : ∀ k, k < 3 → parseFieldDescriptor (TX5 k).2.2.1 = some (tyX5 k) := by decide +kernel
abbrev cX5_init : ByteArray := prog_7_method_1_code
def yX5_init : MethodName := ⟨RX5, "<init>", "()V"⟩
abbrev cX5_begin : ByteArray := prog_7_method_2_code
def yX5_begin : MethodName := ⟨RX5, "begin", "(II)V"⟩
abbrev cX5_isMissing : ByteArray := prog_7_method_3_code
def yX5_isMissing : MethodName := ⟨RX5, "isMissing", "()Z"⟩
abbrev cX5_put : ByteArray := prog_7_method_4_code
def yX5_put : MethodName := ⟨RX5, "put", "(IJ)V"⟩
abbrev cX5_reaches : ByteArray := prog_7_method_5_code
def yX5_reaches : MethodName := ⟨RX5, "reaches", "(II)Z"⟩
def RX6 : String := "PocketBorders$SwallowerWays"
def TX6 : u_T := fun k => match k with
  | _ => ("", "", "", false)
def tyX6 : Nat → FieldType := fun k => match k with
  | _ => .int
theorem nmX6 : ∀ a, a < 0 → ∀ b, b < 0 → a ≠ b → (TX6 a).2.1 ≠ (TX6 b).2.1 := by decide +kernel
theorem tyX6_ok : ∀ k, k < 0 → parseFieldDescriptor (TX6 k).2.2.1 = some (tyX6 k) := by decide +kernel
abbrev cX6_init : ByteArray := prog_8_method_1_code
def yX6_init : MethodName := ⟨RX6, "<init>", "()V"⟩
abbrev cX6_shows : ByteArray := prog_8_method_2_code
def yX6_shows : MethodName := ⟨RX6, "shows", "(II[I)I"⟩
def RX7 : String := "PocketBorders$Tape"
def TX7 : u_T := fun k => match k with
  | 0 => ("PocketBorders$Tape", "bytes", "[I", true)
  | _ => ("PocketBorders$Tape", "length", "I", false)
def tyX7 : Nat → FieldType := fun k => match k with
  | 0 => .array .int
  | _ => .int
theorem nmX7 : ∀ a, a < 2 → ∀ b, b < 2 → a ≠ b → (TX7 a).2.1 ≠ (TX7 b).2.1 := by decide +kernel
theorem tyX7_ok : ∀ k, k < 2 → parseFieldDescriptor (TX7 k).2.2.1 = some (tyX7 k) := by decide +kernel
abbrev cX7_init : ByteArray := prog_9_method_1_code
def yX7_init : MethodName := ⟨RX7, "<init>", "()V"⟩
abbrev cX7_append : ByteArray := prog_9_method_2_code
def yX7_append : MethodName := ⟨RX7, "append", "(I)V"⟩
def RX8 : String := "PocketBorders$TextReader"
def TX8 : u_T := fun k => match k with
  | 0 => ("PocketBorders$TextReader", "tape", "LPocketBorders$Tape;", true)
  | 1 => ("PocketBorders$TextReader", "family", "LPocketBorders$Family;", true)
  | 2 => ("PocketBorders$TextReader", "token", "I", false)
  | 3 => ("PocketBorders$TextReader", "start", "I", false)
  | 4 => ("PocketBorders$TextReader", "behind", "I", false)
  | _ => ("PocketBorders$TextReader", "number", "I", false)
def tyX8 : Nat → FieldType := fun k => match k with
  | 0 => .object "PocketBorders$Tape"
  | 1 => .object "PocketBorders$Family"
  | 2 => .int
  | 3 => .int
  | 4 => .int
  | _ => .int
theorem nmX8 : ∀ a, a < 6 → ∀ b, b < 6 → a ≠ b → (TX8 a).2.1 ≠ (TX8 b).2.1 := by decide +kernel
theorem tyX8_ok : ∀ k, k < 6 → parseFieldDescriptor (TX8 k).2.2.1 = some (tyX8 k) := by decide +kernel
abbrev cX8_init : ByteArray := prog_10_method_1_code
def yX8_init : MethodName := ⟨RX8, "<init>", "(LPocketBorders$Tape;LPocketBorders$Family;)V"⟩
abbrev cX8_readText : ByteArray := prog_10_method_2_code
def yX8_readText : MethodName := ⟨RX8, "readText", "()I"⟩
abbrev cX8_readItem : ByteArray := prog_10_method_3_code
def yX8_readItem : MethodName := ⟨RX8, "readItem", "()Z"⟩
abbrev cX8_readPerson : ByteArray := prog_10_method_4_code
def yX8_readPerson : MethodName := ⟨RX8, "readPerson", "(I)Z"⟩
abbrev cX8_readThings : ByteArray := prog_10_method_5_code
def yX8_readThings : MethodName := ⟨RX8, "readThings", "(I)Z"⟩
abbrev cX8_readWorth : ByteArray := prog_10_method_6_code
def yX8_readWorth : MethodName := ⟨RX8, "readWorth", "()Z"⟩
abbrev cX8_readBurned : ByteArray := prog_10_method_7_code
def yX8_readBurned : MethodName := ⟨RX8, "readBurned", "()Z"⟩
abbrev cX8_isNumber : ByteArray := prog_10_method_8_code
def yX8_isNumber : MethodName := ⟨RX8, "isNumber", "(I)Z"⟩
abbrev cX8_isWord : ByteArray := prog_10_method_9_code
def yX8_isWord : MethodName := ⟨RX8, "isWord", "(Ljava/lang/String;)Z"⟩
abbrev cX8_kindNamed : ByteArray := prog_10_method_10_code
def yX8_kindNamed : MethodName := ⟨RX8, "kindNamed", "()I"⟩
abbrev cX8_nameOfKind : ByteArray := prog_10_method_11_code
def yX8_nameOfKind : MethodName := ⟨RX8, "nameOfKind", "(I)Ljava/lang/String;"⟩
abbrev cX8_next : ByteArray := prog_10_method_12_code
def yX8_next : MethodName := ⟨RX8, "next", "()V"⟩
abbrev cX8_passWord : ByteArray := prog_10_method_13_code
def yX8_passWord : MethodName := ⟨RX8, "passWord", "()V"⟩
abbrev cX8_passNumber : ByteArray := prog_10_method_14_code
def yX8_passNumber : MethodName := ⟨RX8, "passNumber", "()V"⟩
abbrev cX8_isLetter : ByteArray := prog_10_method_15_code
def yX8_isLetter : MethodName := ⟨RX8, "isLetter", "(I)Z"⟩
abbrev cX8_isDigit : ByteArray := prog_10_method_16_code
def yX8_isDigit : MethodName := ⟨RX8, "isDigit", "(I)Z"⟩
def RX9 : String := "PocketBorders$UncleWays"
def TX9 : u_T := fun k => match k with
  | _ => ("", "", "", false)
def tyX9 : Nat → FieldType := fun k => match k with
  | _ => .int
theorem nmX9 : ∀ a, a < 0 → ∀ b, b < 0 → a ≠ b → (TX9 a).2.1 ≠ (TX9 b).2.1 := by decide +kernel
theorem tyX9_ok : ∀ k, k < 0 → parseFieldDescriptor (TX9 k).2.2.1 = some (tyX9 k) := by decide +kernel
abbrev cX9_init : ByteArray := prog_11_method_1_code
def yX9_init : MethodName := ⟨RX9, "<init>", "()V"⟩
abbrev cX9_shows : ByteArray := prog_11_method_2_code
def yX9_shows : MethodName := ⟨RX9, "shows", "(II[I)I"⟩
abbrev cX9_taken : ByteArray := prog_11_method_3_code
def yX9_taken : MethodName := ⟨RX9, "taken", "(I[I)I"⟩
abbrev cX9_finds : ByteArray := prog_11_method_4_code
def yX9_finds : MethodName := ⟨RX9, "finds", "(I)I"⟩
def RX10 : String := "PocketBorders"
def TX10 : u_T := fun k => match k with
  | 0 => ("PocketBorders", "present", "LPocketBorders$Family;", true)
  | 1 => ("PocketBorders", "trial", "LPocketBorders$Family;", true)
  | 2 => ("PocketBorders", "kept", "LPocketBorders$Family;", true)
  | 3 => ("PocketBorders", "isKept", "Z", false)
  | 4 => ("PocketBorders", "tape", "LPocketBorders$Tape;", true)
  | 5 => ("PocketBorders", "reader", "LPocketBorders$TextReader;", true)
  | 6 => ("PocketBorders", "sheets", "[LPocketBorders$Sheet;", true)
  | _ => ("PocketBorders", "findings", "[I", true)
def tyX10 : Nat → FieldType := fun k => match k with
  | 0 => .object "PocketBorders$Family"
  | 1 => .object "PocketBorders$Family"
  | 2 => .object "PocketBorders$Family"
  | 3 => .boolean
  | 4 => .object "PocketBorders$Tape"
  | 5 => .object "PocketBorders$TextReader"
  | 6 => .array (.object "PocketBorders$Sheet")
  | _ => .array .int
theorem nmX10 : ∀ a, a < 8 → ∀ b, b < 8 → a ≠ b → (TX10 a).2.1 ≠ (TX10 b).2.1 := by decide +kernel
theorem tyX10_ok : ∀ k, k < 8 → parseFieldDescriptor (TX10 k).2.2.1 = some (tyX10 k) := by decide +kernel
abbrev cX10_init : ByteArray := prog_1_method_1_code
def yX10_init : MethodName := ⟨RX10, "<init>", "()V"⟩
abbrev cX10_worth : ByteArray := prog_1_method_2_code
def yX10_worth : MethodName := ⟨RX10, "worth", "(II)I"⟩
abbrev cX10_worthOf : ByteArray := prog_1_method_3_code
def yX10_worthOf : MethodName := ⟨RX10, "worthOf", "(I)I"⟩
abbrev cX10_who : ByteArray := prog_1_method_4_code
def yX10_who : MethodName := ⟨RX10, "who", "(I)I"⟩
abbrev cX10_person : ByteArray := prog_1_method_5_code
def yX10_person : MethodName := ⟨RX10, "person", "(I)I"⟩
abbrev cX10_of : ByteArray := prog_1_method_6_code
def yX10_of : MethodName := ⟨RX10, "of", "(II)I"⟩
abbrev cX10_set : ByteArray := prog_1_method_7_code
def yX10_set : MethodName := ⟨RX10, "set", "(III)I"⟩
abbrev cX10_turn : ByteArray := prog_1_method_8_code
def yX10_turn : MethodName := ⟨RX10, "turn", "(II)I"⟩
abbrev cX10_as : ByteArray := prog_1_method_9_code
def yX10_as : MethodName := ⟨RX10, "as", "(II)I"⟩
abbrev cX10_give : ByteArray := prog_1_method_10_code
def yX10_give : MethodName := ⟨RX10, "give", "(II)I"⟩
abbrev cX10_hand : ByteArray := prog_1_method_11_code
def yX10_hand : MethodName := ⟨RX10, "hand", "(III)I"⟩
abbrev cX10_border : ByteArray := prog_1_method_12_code
def yX10_border : MethodName := ⟨RX10, "border", "(I)I"⟩
abbrev cX10_years : ByteArray := prog_1_method_13_code
def yX10_years : MethodName := ⟨RX10, "years", "(I)I"⟩
abbrev cX10_now : ByteArray := prog_1_method_14_code
def yX10_now : MethodName := ⟨RX10, "now", "(I)I"⟩
abbrev cX10_on : ByteArray := prog_1_method_15_code
def yX10_on : MethodName := ⟨RX10, "on", "(III)I"⟩
abbrev cX10_gets : ByteArray := prog_1_method_16_code
def yX10_gets : MethodName := ⟨RX10, "gets", "(II)I"⟩
abbrev cX10_loses : ByteArray := prog_1_method_17_code
def yX10_loses : MethodName := ⟨RX10, "loses", "(II)I"⟩
abbrev cX10_burns : ByteArray := prog_1_method_18_code
def yX10_burns : MethodName := ⟨RX10, "burns", "(I)I"⟩
abbrev cX10_cousin : ByteArray := prog_1_method_19_code
def yX10_cousin : MethodName := ⟨RX10, "cousin", "(II)I"⟩
abbrev cX10_kind : ByteArray := prog_1_method_20_code
def yX10_kind : MethodName := ⟨RX10, "kind", "(II)I"⟩
abbrev cX10_keep : ByteArray := prog_1_method_21_code
def yX10_keep : MethodName := ⟨RX10, "keep", "(III)I"⟩
abbrev cX10_best : ByteArray := prog_1_method_22_code
def yX10_best : MethodName := ⟨RX10, "best", "(II)I"⟩
abbrev cX10_richest : ByteArray := prog_1_method_23_code
def yX10_richest : MethodName := ⟨RX10, "richest", "(I)I"⟩
abbrev cX10_fewest : ByteArray := prog_1_method_24_code
def yX10_fewest : MethodName := ⟨RX10, "fewest", "(III)I"⟩
abbrev cX10_feed : ByteArray := prog_1_method_25_code
def yX10_feed : MethodName := ⟨RX10, "feed", "(II)I"⟩
abbrev cX10_wipe : ByteArray := prog_1_method_26_code
def yX10_wipe : MethodName := ⟨RX10, "wipe", "()I"⟩
abbrev cX10_family : ByteArray := prog_1_method_27_code
def yX10_family : MethodName := ⟨RX10, "family", "()I"⟩
abbrev cX10_sheet : ByteArray := prog_1_method_28_code
def yX10_sheet : MethodName := ⟨RX10, "sheet", "(III)I"⟩
abbrev cX10_write : ByteArray := prog_1_method_29_code
def yX10_write : MethodName := ⟨RX10, "write", "(IIJ)J"⟩
abbrev cX10_copy : ByteArray := prog_1_method_30_code
def yX10_copy : MethodName := ⟨RX10, "copy", "(IIIII)I"⟩
abbrev cX10_lays : ByteArray := prog_1_method_31_code
def yX10_lays : MethodName := ⟨RX10, "lays", "(I)I"⟩
abbrev cX10_book : ByteArray := prog_1_method_32_code
def yX10_book : MethodName := ⟨RX10, "book", "(II)I"⟩
abbrev cX10_read : ByteArray := prog_1_method_33_code
def yX10_read : MethodName := ⟨RX10, "read", "(II)I"⟩
abbrev cX10_image : ByteArray := prog_1_method_34_code
def yX10_image : MethodName := ⟨RX10, "image", "()I"⟩
abbrev cX10_undo : ByteArray := prog_1_method_35_code
def yX10_undo : MethodName := ⟨RX10, "undo", "()I"⟩
abbrev cX10_tear : ByteArray := prog_1_method_36_code
def yX10_tear : MethodName := ⟨RX10, "tear", "()I"⟩
abbrev cX10_count : ByteArray := prog_1_method_37_code
def yX10_count : MethodName := ⟨RX10, "count", "(I)I"⟩
abbrev cX10_status : ByteArray := prog_1_method_38_code
def yX10_status : MethodName := ⟨RX10, "status", "(I)I"⟩
abbrev cX10_found : ByteArray := prog_1_method_39_code
def yX10_found : MethodName := ⟨RX10, "found", "(I)I"⟩
abbrev cX10_isPerson : ByteArray := prog_1_method_40_code
def yX10_isPerson : MethodName := ⟨RX10, "isPerson", "(I)Z"⟩
abbrev cX10_replace : ByteArray := prog_1_method_41_code
def yX10_replace : MethodName := ⟨RX10, "replace", "([IIIII)I"⟩
abbrev cX10_firstYear : ByteArray := prog_1_method_42_code
def yX10_firstYear : MethodName := ⟨RX10, "firstYear", "(IIZ)I"⟩
abbrev cX10_staysWithout : ByteArray := prog_1_method_43_code
def yX10_staysWithout : MethodName := ⟨RX10, "staysWithout", "(IIII)Z"⟩
abbrev cX10_makes : ByteArray := prog_1_method_44_code
def yX10_makes : MethodName := ⟨RX10, "makes", "(LPocketBorders$Sheet;III)Z"⟩
abbrev cX10_isWithin : ByteArray := prog_1_method_45_code
def yX10_isWithin : MethodName := ⟨RX10, "isWithin", "(III)Z"⟩
abbrev cX10_isThing : ByteArray := prog_1_method_46_code
def yX10_isThing : MethodName := ⟨RX10, "isThing", "(I)Z"⟩
abbrev cX10_isWorth : ByteArray := prog_1_method_47_code
def yX10_isWorth : MethodName := ⟨RX10, "isWorth", "(I)Z"⟩
abbrev cX10_isKind : ByteArray := prog_1_method_48_code
def yX10_isKind : MethodName := ⟨RX10, "isKind", "(I)Z"⟩
abbrev cX10_isSheet : ByteArray := prog_1_method_49_code
def yX10_isSheet : MethodName := ⟨RX10, "isSheet", "(I)Z"⟩
abbrev cX10_isUnder : ByteArray := prog_1_method_50_code
def yX10_isUnder : MethodName := ⟨RX10, "isUnder", "(II)Z"⟩
abbrev cX10_setOf : ByteArray := prog_1_method_51_code
def yX10_setOf : MethodName := ⟨RX10, "setOf", "(I)I"⟩
abbrev cX10_contains : ByteArray := prog_1_method_52_code
def yX10_contains : MethodName := ⟨RX10, "contains", "(II)Z"⟩
abbrev cX10_bestIn : ByteArray := prog_1_method_53_code
def yX10_bestIn : MethodName := ⟨RX10, "bestIn", "(I[I)I"⟩
abbrev cX10_worstIn : ByteArray := prog_1_method_54_code
def yX10_worstIn : MethodName := ⟨RX10, "worstIn", "(I[I)I"⟩
abbrev cX10_greatestIn : ByteArray := prog_1_method_55_code
def yX10_greatestIn : MethodName := ⟨RX10, "greatestIn", "(I)I"⟩
def RX11 : String := "PocketBordersModel"
def TX11 : u_T := fun k => match k with
  | 0 => ("PocketBordersModel", "row", "[I", true)
  | 1 => ("PocketBordersModel", "found", "[I", true)
  | 2 => ("PocketBordersModel", "tried", "[I", true)
  | 3 => ("PocketBordersModel", "before1", "[I", true)
  | 4 => ("PocketBordersModel", "tape", "[I", true)
  | 5 => ("PocketBordersModel", "tapeMany", "I", false)
  | 6 => ("PocketBordersModel", "sort", "I", false)
  | 7 => ("PocketBordersModel", "begins", "I", false)
  | 8 => ("PocketBordersModel", "tokenEnds", "I", false)
  | 9 => ("PocketBordersModel", "word", "J", false)
  | 10 => ("PocketBordersModel", "value", "I", false)
  | 11 => ("PocketBordersModel", "good", "Z", false)
  | 12 => ("PocketBordersModel", "bitsOf", "[I", true)
  | 13 => ("PocketBordersModel", "sizeOf", "[I", true)
  | 14 => ("PocketBordersModel", "sheets", "[J", true)
  | 15 => ("PocketBordersModel", "lent", "[J", true)
  | 16 => ("PocketBordersModel", "image", "[I", true)
  | 17 => ("PocketBordersModel", "before", "[I", true)
  | _ => ("PocketBordersModel", "isKept", "Z", false)
def tyX11 : Nat → FieldType := fun k => match k with
  | 0 => .array .int
  | 1 => .array .int
  | 2 => .array .int
  | 3 => .array .int
  | 4 => .array .int
  | 5 => .int
  | 6 => .int
  | 7 => .int
  | 8 => .int
  | 9 => .long
  | 10 => .int
  | 11 => .boolean
  | 12 => .array .int
  | 13 => .array .int
  | 14 => .array .long
  | 15 => .array .long
  | 16 => .array .int
  | 17 => .array .int
  | _ => .boolean
theorem nmX11 : ∀ a, a < 19 → ∀ b, b < 19 → a ≠ b → (TX11 a).2.1 ≠ (TX11 b).2.1 := by decide +kernel
theorem tyX11_ok : ∀ k, k < 19 → parseFieldDescriptor (TX11 k).2.2.1 = some (tyX11 k) := by decide +kernel
abbrev cX11_init : ByteArray := prog_13_method_1_code
def yX11_init : MethodName := ⟨RX11, "<init>", "()V"⟩
abbrev cX11_in : ByteArray := prog_13_method_2_code
def yX11_in : MethodName := ⟨RX11, "in", "(III)Z"⟩
abbrev cX11_finds : ByteArray := prog_13_method_3_code
def yX11_finds : MethodName := ⟨RX11, "finds", "(I)I"⟩
abbrev cX11_held : ByteArray := prog_13_method_4_code
def yX11_held : MethodName := ⟨RX11, "held", "(III)I"⟩
abbrev cX11_its : ByteArray := prog_13_method_5_code
def yX11_its : MethodName := ⟨RX11, "its", "(II)I"⟩
abbrev cX11_puts : ByteArray := prog_13_method_6_code
def yX11_puts : MethodName := ⟨RX11, "puts", "(III)V"⟩
abbrev cX11_becomes : ByteArray := prog_13_method_7_code
def yX11_becomes : MethodName := ⟨RX11, "becomes", "(II)I"⟩
abbrev cX11_isOne : ByteArray := prog_13_method_8_code
def yX11_isOne : MethodName := ⟨RX11, "isOne", "(I)Z"⟩
abbrev cX11_isKind : ByteArray := prog_13_method_9_code
def yX11_isKind : MethodName := ⟨RX11, "isKind", "(I)Z"⟩
abbrev cX11_isThing : ByteArray := prog_13_method_10_code
def yX11_isThing : MethodName := ⟨RX11, "isThing", "(I)Z"⟩
abbrev cX11_bits : ByteArray := prog_13_method_11_code
def yX11_bits : MethodName := ⟨RX11, "bits", "(I)I"⟩
abbrev cX11_bestOf : ByteArray := prog_13_method_12_code
def yX11_bestOf : MethodName := ⟨RX11, "bestOf", "(I)I"⟩
abbrev cX11_worstOf : ByteArray := prog_13_method_13_code
def yX11_worstOf : MethodName := ⟨RX11, "worstOf", "(I)I"⟩
abbrev cX11_lastOf : ByteArray := prog_13_method_14_code
def yX11_lastOf : MethodName := ⟨RX11, "lastOf", "(I)I"⟩
abbrev cX11_but : ByteArray := prog_13_method_15_code
def yX11_but : MethodName := ⟨RX11, "but", "(II)I"⟩
abbrev cX11_valueOf : ByteArray := prog_13_method_16_code
def yX11_valueOf : MethodName := ⟨RX11, "valueOf", "(I)I"⟩
abbrev cX11_worth : ByteArray := prog_13_method_17_code
def yX11_worth : MethodName := ⟨RX11, "worth", "(II)I"⟩
abbrev cX11_worthOf : ByteArray := prog_13_method_18_code
def yX11_worthOf : MethodName := ⟨RX11, "worthOf", "(I)I"⟩
abbrev cX11_who : ByteArray := prog_13_method_19_code
def yX11_who : MethodName := ⟨RX11, "who", "(I)I"⟩
abbrev cX11_shows : ByteArray := prog_13_method_20_code
def yX11_shows : MethodName := ⟨RX11, "shows", "(I)I"⟩
abbrev cX11_taken : ByteArray := prog_13_method_21_code
def yX11_taken : MethodName := ⟨RX11, "taken", "(I)I"⟩
abbrev cX11_findsAt : ByteArray := prog_13_method_22_code
def yX11_findsAt : MethodName := ⟨RX11, "findsAt", "(II)I"⟩
abbrev cX11_adds : ByteArray := prog_13_method_23_code
def yX11_adds : MethodName := ⟨RX11, "adds", "(IIII)V"⟩
abbrev cX11_person : ByteArray := prog_13_method_24_code
def yX11_person : MethodName := ⟨RX11, "person", "(I)I"⟩
abbrev cX11_of : ByteArray := prog_13_method_25_code
def yX11_of : MethodName := ⟨RX11, "of", "(II)I"⟩
abbrev cX11_isPart : ByteArray := prog_13_method_26_code
def yX11_isPart : MethodName := ⟨RX11, "isPart", "(II)Z"⟩
abbrev cX11_set : ByteArray := prog_13_method_27_code
def yX11_set : MethodName := ⟨RX11, "set", "(III)I"⟩
abbrev cX11_turn : ByteArray := prog_13_method_28_code
def yX11_turn : MethodName := ⟨RX11, "turn", "(II)I"⟩
abbrev cX11_as : ByteArray := prog_13_method_29_code
def yX11_as : MethodName := ⟨RX11, "as", "(II)I"⟩
abbrev cX11_has : ByteArray := prog_13_method_30_code
def yX11_has : MethodName := ⟨RX11, "has", "(II)Z"⟩
abbrev cX11_give : ByteArray := prog_13_method_31_code
def yX11_give : MethodName := ⟨RX11, "give", "(II)I"⟩
abbrev cX11_hand : ByteArray := prog_13_method_32_code
def yX11_hand : MethodName := ⟨RX11, "hand", "(III)I"⟩
abbrev cX11_crosses : ByteArray := prog_13_method_33_code
def yX11_crosses : MethodName := ⟨RX11, "crosses", "(I)I"⟩
abbrev cX11_border : ByteArray := prog_13_method_34_code
def yX11_border : MethodName := ⟨RX11, "border", "(I)I"⟩
abbrev cX11_ages : ByteArray := prog_13_method_35_code
def yX11_ages : MethodName := ⟨RX11, "ages", "(I)V"⟩
abbrev cX11_oneYear : ByteArray := prog_13_method_36_code
def yX11_oneYear : MethodName := ⟨RX11, "oneYear", "()V"⟩
abbrev cX11_passes : ByteArray := prog_13_method_37_code
def yX11_passes : MethodName := ⟨RX11, "passes", "(I)V"⟩
abbrev cX11_sumOf : ByteArray := prog_13_method_38_code
def yX11_sumOf : MethodName := ⟨RX11, "sumOf", "(I)I"⟩
abbrev cX11_years : ByteArray := prog_13_method_39_code
def yX11_years : MethodName := ⟨RX11, "years", "(I)I"⟩
abbrev cX11_oldest : ByteArray := prog_13_method_40_code
def yX11_oldest : MethodName := ⟨RX11, "oldest", "()I"⟩
abbrev cX11_valueOfAll : ByteArray := prog_13_method_41_code
def yX11_valueOfAll : MethodName := ⟨RX11, "valueOfAll", "()I"⟩
abbrev cX11_hadByAny : ByteArray := prog_13_method_42_code
def yX11_hadByAny : MethodName := ⟨RX11, "hadByAny", "()I"⟩
abbrev cX11_now : ByteArray := prog_13_method_43_code
def yX11_now : MethodName := ⟨RX11, "now", "(I)I"⟩
abbrev cX11_on : ByteArray := prog_13_method_44_code
def yX11_on : MethodName := ⟨RX11, "on", "(III)I"⟩
abbrev cX11_firstOf : ByteArray := prog_13_method_45_code
def yX11_firstOf : MethodName := ⟨RX11, "firstOf", "(III)I"⟩
abbrev cX11_gets : ByteArray := prog_13_method_46_code
def yX11_gets : MethodName := ⟨RX11, "gets", "(II)I"⟩
abbrev cX11_loses : ByteArray := prog_13_method_47_code
def yX11_loses : MethodName := ⟨RX11, "loses", "(II)I"⟩
abbrev cX11_burns : ByteArray := prog_13_method_48_code
def yX11_burns : MethodName := ⟨RX11, "burns", "(I)I"⟩
abbrev cX11_valueWith : ByteArray := prog_13_method_49_code
def yX11_valueWith : MethodName := ⟨RX11, "valueWith", "(IIII)I"⟩
abbrev cX11_cousin : ByteArray := prog_13_method_50_code
def yX11_cousin : MethodName := ⟨RX11, "cousin", "(II)I"⟩
abbrev cX11_kind : ByteArray := prog_13_method_51_code
def yX11_kind : MethodName := ⟨RX11, "kind", "(II)I"⟩
abbrev cX11_keep : ByteArray := prog_13_method_52_code
def yX11_keep : MethodName := ⟨RX11, "keep", "(III)I"⟩
abbrev cX11_best : ByteArray := prog_13_method_53_code
def yX11_best : MethodName := ⟨RX11, "best", "(II)I"⟩
abbrev cX11_richest : ByteArray := prog_13_method_54_code
def yX11_richest : MethodName := ⟨RX11, "richest", "(I)I"⟩
abbrev cX11_fewest : ByteArray := prog_13_method_55_code
def yX11_fewest : MethodName := ⟨RX11, "fewest", "(III)I"⟩
abbrev cX11_feed : ByteArray := prog_13_method_56_code
def yX11_feed : MethodName := ⟨RX11, "feed", "(II)I"⟩
abbrev cX11_wipe : ByteArray := prog_13_method_57_code
def yX11_wipe : MethodName := ⟨RX11, "wipe", "()I"⟩
abbrev cX11_byteAt : ByteArray := prog_13_method_58_code
def yX11_byteAt : MethodName := ⟨RX11, "byteAt", "(I)I"⟩
abbrev cX11_isLetter : ByteArray := prog_13_method_59_code
def yX11_isLetter : MethodName := ⟨RX11, "isLetter", "(I)Z"⟩
abbrev cX11_isDigit : ByteArray := prog_13_method_60_code
def yX11_isDigit : MethodName := ⟨RX11, "isDigit", "(I)Z"⟩
abbrev cX11_advance : ByteArray := prog_13_method_61_code
def yX11_advance : MethodName := ⟨RX11, "advance", "()V"⟩
abbrev cX11_isWord : ByteArray := prog_13_method_62_code
def yX11_isWord : MethodName := ⟨RX11, "isWord", "(J)Z"⟩
abbrev cX11_kindHere : ByteArray := prog_13_method_63_code
def yX11_kindHere : MethodName := ⟨RX11, "kindHere", "()I"⟩
abbrev cX11_wantNumber : ByteArray := prog_13_method_64_code
def yX11_wantNumber : MethodName := ⟨RX11, "wantNumber", "(II)I"⟩
abbrev cX11_mayWant : ByteArray := prog_13_method_65_code
def yX11_mayWant : MethodName := ⟨RX11, "mayWant", "(JIII)I"⟩
abbrev cX11_mayHave : ByteArray := prog_13_method_66_code
def yX11_mayHave : MethodName := ⟨RX11, "mayHave", "()I"⟩
abbrev cX11_wantOne : ByteArray := prog_13_method_67_code
def yX11_wantOne : MethodName := ⟨RX11, "wantOne", "(I)V"⟩
abbrev cX11_wantItem : ByteArray := prog_13_method_68_code
def yX11_wantItem : MethodName := ⟨RX11, "wantItem", "()V"⟩
abbrev cX11_family : ByteArray := prog_13_method_69_code
def yX11_family : MethodName := ⟨RX11, "family", "()I"⟩
abbrev cX11_isSheet : ByteArray := prog_13_method_70_code
def yX11_isSheet : MethodName := ⟨RX11, "isSheet", "(I)Z"⟩
abbrev cX11_narrow : ByteArray := prog_13_method_71_code
def yX11_narrow : MethodName := ⟨RX11, "narrow", "(IJ)J"⟩
abbrev cX11_sheet : ByteArray := prog_13_method_72_code
def yX11_sheet : MethodName := ⟨RX11, "sheet", "(III)I"⟩
abbrev cX11_write : ByteArray := prog_13_method_73_code
def yX11_write : MethodName := ⟨RX11, "write", "(IIJ)J"⟩
abbrev cX11_isPart_ : ByteArray := prog_13_method_74_code
def yX11_isPart_ : MethodName := ⟨RX11, "isPart", "(III)Z"⟩
abbrev cX11_copy : ByteArray := prog_13_method_75_code
def yX11_copy : MethodName := ⟨RX11, "copy", "(IIIII)I"⟩
abbrev cX11_badSheet : ByteArray := prog_13_method_76_code
def yX11_badSheet : MethodName := ⟨RX11, "badSheet", "(I)I"⟩
abbrev cX11_lays : ByteArray := prog_13_method_77_code
def yX11_lays : MethodName := ⟨RX11, "lays", "(I)I"⟩
abbrev cX11_book : ByteArray := prog_13_method_78_code
def yX11_book : MethodName := ⟨RX11, "book", "(II)I"⟩
abbrev cX11_isSo : ByteArray := prog_13_method_79_code
def yX11_isSo : MethodName := ⟨RX11, "isSo", "(II)Z"⟩
abbrev cX11_read : ByteArray := prog_13_method_80_code
def yX11_read : MethodName := ⟨RX11, "read", "(II)I"⟩
abbrev cX11_moveAll : ByteArray := prog_13_method_81_code
def yX11_moveAll : MethodName := ⟨RX11, "moveAll", "(Z[I)V"⟩
abbrev cX11_image : ByteArray := prog_13_method_82_code
def yX11_image : MethodName := ⟨RX11, "image", "()I"⟩
abbrev cX11_undo : ByteArray := prog_13_method_83_code
def yX11_undo : MethodName := ⟨RX11, "undo", "()I"⟩
abbrev cX11_tear : ByteArray := prog_13_method_84_code
def yX11_tear : MethodName := ⟨RX11, "tear", "()I"⟩
abbrev cX11_count : ByteArray := prog_13_method_85_code
def yX11_count : MethodName := ⟨RX11, "count", "(I)I"⟩
abbrev cX11_thingsOf : ByteArray := prog_13_method_86_code
def yX11_thingsOf : MethodName := ⟨RX11, "thingsOf", "()I"⟩
abbrev cX11_status : ByteArray := prog_13_method_87_code
def yX11_status : MethodName := ⟨RX11, "status", "(I)I"⟩
def RJx145de : String := "java/io/Serializable"
def TJx145de : u_T := fun k => match k with
  | _ => ("", "", "", false)
def tyJx145de : Nat → FieldType := fun k => match k with
  | _ => .int
theorem nmJx145de : ∀ a, a < 0 → ∀ b, b < 0 → a ≠ b → (TJx145de a).2.1 ≠ (TJx145de b).2.1 := by decide +kernel
theorem tyJx145de_ok : ∀ k, k < 0 → parseFieldDescriptor (TJx145de k).2.2.1 = some (tyJx145de k) := by decide +kernel
def RJx9f9b0 : String := "java/lang/CharSequence"
def TJx9f9b0 : u_T := fun k => match k with
  | _ => ("", "", "", false)
def tyJx9f9b0 : Nat → FieldType := fun k => match k with
  | _ => .int
theorem nmJx9f9b0 : ∀ a, a < 0 → ∀ b, b < 0 → a ≠ b → (TJx9f9b0 a).2.1 ≠ (TJx9f9b0 b).2.1 := by decide +kernel
theorem tyJx9f9b0_ok : ∀ k, k < 0 → parseFieldDescriptor (TJx9f9b0 k).2.2.1 = some (tyJx9f9b0 k) := by decide +kernel
def RJxb160c : String := "java/lang/Comparable"
def TJxb160c : u_T := fun k => match k with
  | _ => ("", "", "", false)
def tyJxb160c : Nat → FieldType := fun k => match k with
  | _ => .int
theorem nmJxb160c : ∀ a, a < 0 → ∀ b, b < 0 → a ≠ b → (TJxb160c a).2.1 ≠ (TJxb160c b).2.1 := by decide +kernel
theorem tyJxb160c_ok : ∀ k, k < 0 → parseFieldDescriptor (TJxb160c k).2.2.1 = some (tyJxb160c k) := by decide +kernel
def RJ6 : String := "java/lang/Integer"
def TJ6 : u_T := fun k => match k with
  | _ => ("", "", "", false)
def tyJ6 : Nat → FieldType := fun k => match k with
  | _ => .int
theorem nmJ6 : ∀ a, a < 0 → ∀ b, b < 0 → a ≠ b → (TJ6 a).2.1 ≠ (TJ6 b).2.1 := by decide +kernel
theorem tyJ6_ok : ∀ k, k < 0 → parseFieldDescriptor (TJ6 k).2.2.1 = some (tyJ6 k) := by decide +kernel
abbrev cJ6_bitCount_0f7a4 : ByteArray := prog_14_method_49_code
def yJ6_bitCount_0f7a4 : MethodName := ⟨RJ6, "bitCount", "(I)I"⟩
def RJ9 : String := "java/lang/Math"
def TJ9 : u_T := fun k => match k with
  | _ => ("", "", "", false)
def tyJ9 : Nat → FieldType := fun k => match k with
  | _ => .int
theorem nmJ9 : ∀ a, a < 0 → ∀ b, b < 0 → a ≠ b → (TJ9 a).2.1 ≠ (TJ9 b).2.1 := by decide +kernel
theorem tyJ9_ok : ∀ k, k < 0 → parseFieldDescriptor (TJ9 k).2.2.1 = some (tyJ9 k) := by decide +kernel
abbrev cJ9_min_7cf53 : ByteArray := prog_15_method_69_code
def yJ9_min_7cf53 : MethodName := ⟨RJ9, "min", "(II)I"⟩
def RJ0 : String := "java/lang/String"
def TJ0 : u_T := fun k => match k with
  | _ => ("", "", "", false)
def tyJ0 : Nat → FieldType := fun k => match k with
  | _ => .int
theorem nmJ0 : ∀ a, a < 0 → ∀ b, b < 0 → a ≠ b → (TJ0 a).2.1 ≠ (TJ0 b).2.1 := by decide +kernel
theorem tyJ0_ok : ∀ k, k < 0 → parseFieldDescriptor (TJ0 k).2.2.1 = some (tyJ0 k) := by decide +kernel
abbrev cJ0_length_8abf5 : ByteArray := prog_16_method_54_code
def yJ0_length_8abf5 : MethodName := ⟨RJ0, "length", "()I"⟩
abbrev cJ0_charAt_5068e : ByteArray := prog_16_method_56_code
def yJ0_charAt_5068e : MethodName := ⟨RJ0, "charAt", "(I)C"⟩
abbrev cJ0_coder_7d493 : ByteArray := prog_16_method_152_code
def yJ0_coder_7d493 : MethodName := ⟨RJ0, "coder", "()B"⟩
abbrev cJ0_isLatin1_aae02 : ByteArray := prog_16_method_154_code
def yJ0_isLatin1_aae02 : MethodName := ⟨RJ0, "isLatin1", "()Z"⟩
abbrev cJ0_checkIndex_df160 : ByteArray := prog_16_method_155_code
def yJ0_checkIndex_df160 : MethodName := ⟨RJ0, "checkIndex", "(II)V"⟩
def RJ1 : String := "java/lang/StringLatin1"
def TJ1 : u_T := fun k => match k with
  | _ => ("", "", "", false)
def tyJ1 : Nat → FieldType := fun k => match k with
  | _ => .int
theorem nmJ1 : ∀ a, a < 0 → ∀ b, b < 0 → a ≠ b → (TJ1 a).2.1 ≠ (TJ1 b).2.1 := by decide +kernel
theorem tyJ1_ok : ∀ k, k < 0 → parseFieldDescriptor (TJ1 k).2.2.1 = some (tyJ1 k) := by decide +kernel
abbrev cJ1_charAt_3b067 : ByteArray := prog_17_method_2_code
def yJ1_charAt_3b067 : MethodName := ⟨RJ1, "charAt", "([BI)C"⟩
def RJ2 : String := "java/lang/StringUTF16"
def TJ2 : u_T := fun k => match k with
  | _ => ("", "", "", false)
def tyJ2 : Nat → FieldType := fun k => match k with
  | _ => .int
theorem nmJ2 : ∀ a, a < 0 → ∀ b, b < 0 → a ≠ b → (TJ2 a).2.1 ≠ (TJ2 b).2.1 := by decide +kernel
theorem tyJ2_ok : ∀ k, k < 0 → parseFieldDescriptor (TJ2 k).2.2.1 = some (tyJ2 k) := by decide +kernel
abbrev cJ2_getChar_3b067 : ByteArray := prog_18_method_5_code
def yJ2_getChar_3b067 : MethodName := ⟨RJ2, "getChar", "([BI)C"⟩
abbrev cJ2_length_9d52b : ByteArray := prog_18_method_6_code
def yJ2_length_9d52b : MethodName := ⟨RJ2, "length", "([B)I"⟩
abbrev cJ2_charAt_3b067 : ByteArray := prog_18_method_83_code
def yJ2_charAt_3b067 : MethodName := ⟨RJ2, "charAt", "([BI)C"⟩
abbrev cJ2_checkIndex_2214a : ByteArray := prog_18_method_91_code
def yJ2_checkIndex_2214a : MethodName := ⟨RJ2, "checkIndex", "(I[B)V"⟩
def RJ10 : String := "java/lang/System"
def TJ10 : u_T := fun k => match k with
  | _ => ("", "", "", false)
def tyJ10 : Nat → FieldType := fun k => match k with
  | _ => .int
theorem nmJ10 : ∀ a, a < 0 → ∀ b, b < 0 → a ≠ b → (TJ10 a).2.1 ≠ (TJ10 b).2.1 := by decide +kernel
theorem tyJ10_ok : ∀ k, k < 0 → parseFieldDescriptor (TJ10 k).2.2.1 = some (tyJ10 k) := by decide +kernel
def RJxfd54e : String := "java/lang/constant/Constable"
def TJxfd54e : u_T := fun k => match k with
  | _ => ("", "", "", false)
def tyJxfd54e : Nat → FieldType := fun k => match k with
  | _ => .int
theorem nmJxfd54e : ∀ a, a < 0 → ∀ b, b < 0 → a ≠ b → (TJxfd54e a).2.1 ≠ (TJxfd54e b).2.1 := by decide +kernel
theorem tyJxfd54e_ok : ∀ k, k < 0 → parseFieldDescriptor (TJxfd54e k).2.2.1 = some (tyJxfd54e k) := by decide +kernel
def RJx3cf43 : String := "java/lang/constant/ConstantDesc"
def TJx3cf43 : u_T := fun k => match k with
  | _ => ("", "", "", false)
def tyJx3cf43 : Nat → FieldType := fun k => match k with
  | _ => .int
theorem nmJx3cf43 : ∀ a, a < 0 → ∀ b, b < 0 → a ≠ b → (TJx3cf43 a).2.1 ≠ (TJx3cf43 b).2.1 := by decide +kernel
theorem tyJx3cf43_ok : ∀ k, k < 0 → parseFieldDescriptor (TJx3cf43 k).2.2.1 = some (tyJx3cf43 k) := by decide +kernel
def RJ7 : String := "java/util/Arrays"
def TJ7 : u_T := fun k => match k with
  | _ => ("", "", "", false)
def tyJ7 : Nat → FieldType := fun k => match k with
  | _ => .int
theorem nmJ7 : ∀ a, a < 0 → ∀ b, b < 0 → a ≠ b → (TJ7 a).2.1 ≠ (TJ7 b).2.1 := by decide +kernel
theorem tyJ7_ok : ∀ k, k < 0 → parseFieldDescriptor (TJ7 k).2.2.1 = some (tyJ7 k) := by decide +kernel
abbrev cJ7_fill_d0a16 : ByteArray := prog_20_method_101_code
def yJ7_fill_d0a16 : MethodName := ⟨RJ7, "fill", "([JJ)V"⟩
def RJ3 : String := "jdk/internal/util/Preconditions"
def TJ3 : u_T := fun k => match k with
  | _ => ("", "", "", false)
def tyJ3 : Nat → FieldType := fun k => match k with
  | _ => .int
theorem nmJ3 : ∀ a, a < 0 → ∀ b, b < 0 → a ≠ b → (TJ3 a).2.1 ≠ (TJ3 b).2.1 := by decide +kernel
theorem tyJ3_ok : ∀ k, k < 0 → parseFieldDescriptor (TJ3 k).2.2.1 = some (tyJ3 k) := by decide +kernel
abbrev cJ3_checkIndex_8e157 : ByteArray := prog_21_method_11_code
def yJ3_checkIndex_8e157 : MethodName := ⟨RJ3, "checkIndex", "(IILjava/util/function/BiFunction;)I"⟩
def RL : String := "PocketBordersLaw"
abbrev cL_law : ByteArray := code
def yL_law : MethodName := ⟨RL, "law", "([I)Z"⟩
abbrev vwCl : List vw_C := [(RX0, TX0, 0), (RX1, TX1, 10), (RX2, TX2, 0), (RX3, TX3, 0), (RX4, TX4, 0), (RX5, TX5, 3), (RX6, TX6, 0), (RX7, TX7, 2), (RX8, TX8, 6), (RX9, TX9, 0), (RX10, TX10, 8), (RX11, TX11, 19)]
