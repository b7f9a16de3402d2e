/-! resolution rows, and the methods code, class and type -/
theorem hM_X0_init : MX0_init.2.2.1 = cX0_init := rfl
theorem hC_X0_init : MX0_init.1 = 0 := rfl
theorem hT_X0_init : MX0_init.2.2.2.2 = none := rfl
theorem hM_X0_taken : MX0_taken.2.2.1 = cX0_taken := rfl
theorem hC_X0_taken : MX0_taken.1 = 0 := rfl
theorem hT_X0_taken : MX0_taken.2.2.2.2 = some .int := rfl
theorem hM_X0_finds : MX0_finds.2.2.1 = cX0_finds := rfl
theorem hC_X0_finds : MX0_finds.1 = 0 := rfl
theorem hT_X0_finds : MX0_finds.2.2.2.2 = some .int := rfl
theorem hM_X1_init : MX1_init.2.2.1 = cX1_init := rfl
theorem hC_X1_init : MX1_init.1 = 1 := rfl
theorem hT_X1_init : MX1_init.2.2.2.2 = none := rfl
theorem hM_X1_becomes : MX1_becomes.2.2.1 = cX1_becomes := rfl
theorem hC_X1_becomes : MX1_becomes.1 = 1 := rfl
theorem hT_X1_becomes : MX1_becomes.2.2.2.2 = none := rfl
theorem hM_X1_addPerson : MX1_addPerson.2.2.1 = cX1_addPerson := rfl
theorem hC_X1_addPerson : MX1_addPerson.1 = 1 := rfl
theorem hT_X1_addPerson : MX1_addPerson.2.2.2.2 = some .int := rfl
theorem hM_X1_has : MX1_has.2.2.1 = cX1_has := rfl
theorem hC_X1_has : MX1_has.1 = 1 := rfl
theorem hT_X1_has : MX1_has.2.2.2.2 = some .boolean := rfl
theorem hM_X1_shownBy : MX1_shownBy.2.2.1 = cX1_shownBy := rfl
theorem hC_X1_shownBy : MX1_shownBy.1 = 1 := rfl
theorem hT_X1_shownBy : MX1_shownBy.2.2.2.2 = some .int := rfl
theorem hM_X1_takenFrom : MX1_takenFrom.2.2.1 = cX1_takenFrom := rfl
theorem hC_X1_takenFrom : MX1_takenFrom.1 = 1 := rfl
theorem hT_X1_takenFrom : MX1_takenFrom.2.2.2.2 = some .int := rfl
theorem hM_X1_foundNextBy : MX1_foundNextBy.2.2.1 = cX1_foundNextBy := rfl
theorem hC_X1_foundNextBy : MX1_foundNextBy.1 = 1 := rfl
theorem hT_X1_foundNextBy : MX1_foundNextBy.2.2.2.2 = some .int := rfl
theorem hM_X1_holdBorder : MX1_holdBorder.2.2.1 = cX1_holdBorder := rfl
theorem hC_X1_holdBorder : MX1_holdBorder.1 = 1 := rfl
theorem hT_X1_holdBorder : MX1_holdBorder.2.2.2.2 = some .int := rfl
theorem hM_X1_passYears : MX1_passYears.2.2.1 = cX1_passYears := rfl
theorem hC_X1_passYears : MX1_passYears.1 = 1 := rfl
theorem hT_X1_passYears : MX1_passYears.2.2.2.2 = none := rfl
theorem hM_X1_pocketWorth : MX1_pocketWorth.2.2.1 = cX1_pocketWorth := rfl
theorem hC_X1_pocketWorth : MX1_pocketWorth.1 = 1 := rfl
theorem hT_X1_pocketWorth : MX1_pocketWorth.2.2.2.2 = some .int := rfl
theorem hM_X1_worthOfAllPockets : MX1_worthOfAllPockets.2.2.1 = cX1_worthOfAllPockets := rfl
theorem hC_X1_worthOfAllPockets : MX1_worthOfAllPockets.1 = 1 := rfl
theorem hT_X1_worthOfAllPockets : MX1_worthOfAllPockets.2.2.2.2 = some .int := rfl
theorem hM_X1_theOldest : MX1_theOldest.2.2.1 = cX1_theOldest := rfl
theorem hC_X1_theOldest : MX1_theOldest.1 = 1 := rfl
theorem hT_X1_theOldest : MX1_theOldest.2.2.2.2 = some .int := rfl
theorem hM_X1_ownedThings : MX1_ownedThings.2.2.1 = cX1_ownedThings := rfl
theorem hC_X1_ownedThings : MX1_ownedThings.1 = 1 := rfl
theorem hT_X1_ownedThings : MX1_ownedThings.2.2.2.2 = some .int := rfl
theorem hM_X1_lostByAll : MX1_lostByAll.2.2.1 = cX1_lostByAll := rfl
theorem hC_X1_lostByAll : MX1_lostByAll.1 = 1 := rfl
theorem hT_X1_lostByAll : MX1_lostByAll.2.2.2.2 = some .int := rfl
theorem hM_X1_agesOfAll : MX1_agesOfAll.2.2.1 = cX1_agesOfAll := rfl
theorem hC_X1_agesOfAll : MX1_agesOfAll.1 = 1 := rfl
theorem hT_X1_agesOfAll : MX1_agesOfAll.2.2.2.2 = some .int := rfl
theorem hM_X1_thingsInPockets : MX1_thingsInPockets.2.2.1 = cX1_thingsInPockets := rfl
theorem hC_X1_thingsInPockets : MX1_thingsInPockets.1 = 1 := rfl
theorem hT_X1_thingsInPockets : MX1_thingsInPockets.2.2.2.2 = some .int := rfl
theorem hM_X2_init : MX2_init.2.2.1 = cX2_init := rfl
theorem hC_X2_init : MX2_init.1 = 2 := rfl
theorem hT_X2_init : MX2_init.2.2.2.2 = none := rfl
theorem hM_X2_shows : MX2_shows.2.2.1 = cX2_shows := rfl
theorem hC_X2_shows : MX2_shows.1 = 2 := rfl
theorem hT_X2_shows : MX2_shows.2.2.2.2 = some .int := rfl
theorem hM_X3_init : MX3_init.2.2.1 = cX3_init := rfl
theorem hC_X3_init : MX3_init.1 = 3 := rfl
theorem hT_X3_init : MX3_init.2.2.2.2 = none := rfl
theorem hM_X3_shows : MX3_shows.2.2.1 = cX3_shows := rfl
theorem hC_X3_shows : MX3_shows.1 = 3 := rfl
theorem hT_X3_shows : MX3_shows.2.2.2.2 = some .int := rfl
theorem hM_X3_taken : MX3_taken.2.2.1 = cX3_taken := rfl
theorem hC_X3_taken : MX3_taken.1 = 3 := rfl
theorem hT_X3_taken : MX3_taken.2.2.2.2 = some .int := rfl
theorem hM_X3_finds : MX3_finds.2.2.1 = cX3_finds := rfl
theorem hC_X3_finds : MX3_finds.1 = 3 := rfl
theorem hT_X3_finds : MX3_finds.2.2.2.2 = some .int := rfl
theorem hM_X4_init : MX4_init.2.2.1 = cX4_init := rfl
theorem hC_X4_init : MX4_init.1 = 4 := rfl
theorem hT_X4_init : MX4_init.2.2.2.2 = none := rfl
theorem hM_X4_taken : MX4_taken.2.2.1 = cX4_taken := rfl
theorem hC_X4_taken : MX4_taken.1 = 4 := rfl
theorem hT_X4_taken : MX4_taken.2.2.2.2 = some .int := rfl
theorem hM_X4_finds : MX4_finds.2.2.1 = cX4_finds := rfl
theorem hC_X4_finds : MX4_finds.1 = 4 := rfl
theorem hT_X4_finds : MX4_finds.2.2.2.2 = some .int := rfl
theorem hM_X5_init : MX5_init.2.2.1 = cX5_init := rfl
theorem hC_X5_init : MX5_init.1 = 5 := rfl
theorem hT_X5_init : MX5_init.2.2.2.2 = none := rfl
theorem hM_X5_begin : MX5_begin.2.2.1 = cX5_begin := rfl
theorem hC_X5_begin : MX5_begin.1 = 5 := rfl
theorem hT_X5_begin : MX5_begin.2.2.2.2 = none := rfl
theorem hM_X5_isMissing : MX5_isMissing.2.2.1 = cX5_isMissing := rfl
theorem hC_X5_isMissing : MX5_isMissing.1 = 5 := rfl
theorem hT_X5_isMissing : MX5_isMissing.2.2.2.2 = some .boolean := rfl
theorem hM_X5_put : MX5_put.2.2.1 = cX5_put := rfl
theorem hC_X5_put : MX5_put.1 = 5 := rfl
theorem hT_X5_put : MX5_put.2.2.2.2 = none := rfl
theorem hM_X5_reaches : MX5_reaches.2.2.1 = cX5_reaches := rfl
theorem hC_X5_reaches : MX5_reaches.1 = 5 := rfl
theorem hT_X5_reaches : MX5_reaches.2.2.2.2 = some .boolean := rfl
theorem hM_X6_init : MX6_init.2.2.1 = cX6_init := rfl
theorem hC_X6_init : MX6_init.1 = 6 := rfl
theorem hT_X6_init : MX6_init.2.2.2.2 = none := rfl
theorem hM_X6_shows : MX6_shows.2.2.1 = cX6_shows := rfl
theorem hC_X6_shows : MX6_shows.1 = 6 := rfl
theorem hT_X6_shows : MX6_shows.2.2.2.2 = some .int := rfl
theorem hM_X7_init : MX7_init.2.2.1 = cX7_init := rfl
theorem hC_X7_init : MX7_init.1 = 7 := rfl
theorem hT_X7_init : MX7_init.2.2.2.2 = none := rfl
theorem hM_X7_append : MX7_append.2.2.1 = cX7_append := rfl
theorem hC_X7_append : MX7_append.1 = 7 := rfl
theorem hT_X7_append : MX7_append.2.2.2.2 = none := rfl
theorem hM_X8_init : MX8_init.2.2.1 = cX8_init := rfl
theorem hC_X8_init : MX8_init.1 = 8 := rfl
theorem hT_X8_init : MX8_init.2.2.2.2 = none := rfl
theorem hM_X8_readText : MX8_readText.2.2.1 = cX8_readText := rfl
theorem hC_X8_readText : MX8_readText.1 = 8 := rfl
theorem hT_X8_readText : MX8_readText.2.2.2.2 = some .int := rfl
theorem hM_X8_readItem : MX8_readItem.2.2.1 = cX8_readItem := rfl
theorem hC_X8_readItem : MX8_readItem.1 = 8 := rfl
theorem hT_X8_readItem : MX8_readItem.2.2.2.2 = some .boolean := rfl
theorem hM_X8_readPerson : MX8_readPerson.2.2.1 = cX8_readPerson := rfl
theorem hC_X8_readPerson : MX8_readPerson.1 = 8 := rfl
theorem hT_X8_readPerson : MX8_readPerson.2.2.2.2 = some .boolean := rfl
theorem hM_X8_readThings : MX8_readThings.2.2.1 = cX8_readThings := rfl
theorem hC_X8_readThings : MX8_readThings.1 = 8 := rfl
theorem hT_X8_readThings : MX8_readThings.2.2.2.2 = some .boolean := rfl
theorem hM_X8_readWorth : MX8_readWorth.2.2.1 = cX8_readWorth := rfl
theorem hC_X8_readWorth : MX8_readWorth.1 = 8 := rfl
theorem hT_X8_readWorth : MX8_readWorth.2.2.2.2 = some .boolean := rfl
theorem hM_X8_readBurned : MX8_readBurned.2.2.1 = cX8_readBurned := rfl
theorem hC_X8_readBurned : MX8_readBurned.1 = 8 := rfl
theorem hT_X8_readBurned : MX8_readBurned.2.2.2.2 = some .boolean := rfl
theorem hM_X8_isNumber : MX8_isNumber.2.2.1 = cX8_isNumber := rfl
theorem hC_X8_isNumber : MX8_isNumber.1 = 8 := rfl
theorem hT_X8_isNumber : MX8_isNumber.2.2.2.2 = some .boolean := rfl
theorem hM_X8_isWord : MX8_isWord.2.2.1 = cX8_isWord := rfl
theorem hC_X8_isWord : MX8_isWord.1 = 8 := rfl
theorem hT_X8_isWord : MX8_isWord.2.2.2.2 = some .boolean := rfl
theorem hM_X8_kindNamed : MX8_kindNamed.2.2.1 = cX8_kindNamed := rfl
theorem hC_X8_kindNamed : MX8_kindNamed.1 = 8 := rfl
theorem hT_X8_kindNamed : MX8_kindNamed.2.2.2.2 = some .int := rfl
theorem hM_X8_nameOfKind : MX8_nameOfKind.2.2.1 = cX8_nameOfKind := rfl
theorem hC_X8_nameOfKind : MX8_nameOfKind.1 = 8 := rfl
theorem hT_X8_nameOfKind : MX8_nameOfKind.2.2.2.2 = some (.object "java/lang/String") := rfl
theorem hM_X8_next : MX8_next.2.2.1 = cX8_next := rfl
theorem hC_X8_next : MX8_next.1 = 8 := rfl
theorem hT_X8_next : MX8_next.2.2.2.2 = none := rfl
theorem hM_X8_passWord : MX8_passWord.2.2.1 = cX8_passWord := rfl
theorem hC_X8_passWord : MX8_passWord.1 = 8 := rfl
theorem hT_X8_passWord : MX8_passWord.2.2.2.2 = none := rfl
theorem hM_X8_passNumber : MX8_passNumber.2.2.1 = cX8_passNumber := rfl
theorem hC_X8_passNumber : MX8_passNumber.1 = 8 := rfl
theorem hT_X8_passNumber : MX8_passNumber.2.2.2.2 = none := rfl
theorem hM_X8_isLetter : MX8_isLetter.2.2.1 = cX8_isLetter := rfl
theorem hC_X8_isLetter : MX8_isLetter.1 = 8 := rfl
theorem hT_X8_isLetter : MX8_isLetter.2.2.2.2 = some .boolean := rfl
theorem hM_X8_isDigit : MX8_isDigit.2.2.1 = cX8_isDigit := rfl
theorem hC_X8_isDigit : MX8_isDigit.1 = 8 := rfl
theorem hT_X8_isDigit : MX8_isDigit.2.2.2.2 = some .boolean := rfl
theorem hM_X9_init : MX9_init.2.2.1 = cX9_init := rfl
theorem hC_X9_init : MX9_init.1 = 9 := rfl
theorem hT_X9_init : MX9_init.2.2.2.2 = none := rfl
theorem hM_X9_shows : MX9_shows.2.2.1 = cX9_shows := rfl
theorem hC_X9_shows : MX9_shows.1 = 9 := rfl
theorem hT_X9_shows : MX9_shows.2.2.2.2 = some .int := rfl
theorem hM_X9_taken : MX9_taken.2.2.1 = cX9_taken := rfl
theorem hC_X9_taken : MX9_taken.1 = 9 := rfl
theorem hT_X9_taken : MX9_taken.2.2.2.2 = some .int := rfl
theorem hM_X9_finds : MX9_finds.2.2.1 = cX9_finds := rfl
theorem hC_X9_finds : MX9_finds.1 = 9 := rfl
theorem hT_X9_finds : MX9_finds.2.2.2.2 = some .int := rfl
theorem hM_X10_init : MX10_init.2.2.1 = cX10_init := rfl
theorem hC_X10_init : MX10_init.1 = 10 := rfl
theorem hT_X10_init : MX10_init.2.2.2.2 = none := rfl
theorem hM_X10_worth : MX10_worth.2.2.1 = cX10_worth := rfl
theorem hC_X10_worth : MX10_worth.1 = 10 := rfl
theorem hT_X10_worth : MX10_worth.2.2.2.2 = some .int := rfl
theorem hM_X10_worthOf : MX10_worthOf.2.2.1 = cX10_worthOf := rfl
theorem hC_X10_worthOf : MX10_worthOf.1 = 10 := rfl
theorem hT_X10_worthOf : MX10_worthOf.2.2.2.2 = some .int := rfl
theorem hM_X10_who : MX10_who.2.2.1 = cX10_who := rfl
theorem hC_X10_who : MX10_who.1 = 10 := rfl
theorem hT_X10_who : MX10_who.2.2.2.2 = some .int := rfl
theorem hM_X10_person : MX10_person.2.2.1 = cX10_person := rfl
theorem hC_X10_person : MX10_person.1 = 10 := rfl
theorem hT_X10_person : MX10_person.2.2.2.2 = some .int := rfl
theorem hM_X10_of : MX10_of.2.2.1 = cX10_of := rfl
theorem hC_X10_of : MX10_of.1 = 10 := rfl
theorem hT_X10_of : MX10_of.2.2.2.2 = some .int := rfl
theorem hM_X10_set : MX10_set.2.2.1 = cX10_set := rfl
theorem hC_X10_set : MX10_set.1 = 10 := rfl
theorem hT_X10_set : MX10_set.2.2.2.2 = some .int := rfl
theorem hM_X10_turn : MX10_turn.2.2.1 = cX10_turn := rfl
theorem hC_X10_turn : MX10_turn.1 = 10 := rfl
theorem hT_X10_turn : MX10_turn.2.2.2.2 = some .int := rfl
theorem hM_X10_as : MX10_as.2.2.1 = cX10_as := rfl
theorem hC_X10_as : MX10_as.1 = 10 := rfl
theorem hT_X10_as : MX10_as.2.2.2.2 = some .int := rfl
theorem hM_X10_give : MX10_give.2.2.1 = cX10_give := rfl
theorem hC_X10_give : MX10_give.1 = 10 := rfl
theorem hT_X10_give : MX10_give.2.2.2.2 = some .int := rfl
theorem hM_X10_hand : MX10_hand.2.2.1 = cX10_hand := rfl
theorem hC_X10_hand : MX10_hand.1 = 10 := rfl
theorem hT_X10_hand : MX10_hand.2.2.2.2 = some .int := rfl
theorem hM_X10_border : MX10_border.2.2.1 = cX10_border := rfl
theorem hC_X10_border : MX10_border.1 = 10 := rfl
theorem hT_X10_border : MX10_border.2.2.2.2 = some .int := rfl
theorem hM_X10_years : MX10_years.2.2.1 = cX10_years := rfl
theorem hC_X10_years : MX10_years.1 = 10 := rfl
theorem hT_X10_years : MX10_years.2.2.2.2 = some .int := rfl
theorem hM_X10_now : MX10_now.2.2.1 = cX10_now := rfl
theorem hC_X10_now : MX10_now.1 = 10 := rfl
theorem hT_X10_now : MX10_now.2.2.2.2 = some .int := rfl
theorem hM_X10_on : MX10_on.2.2.1 = cX10_on := rfl
theorem hC_X10_on : MX10_on.1 = 10 := rfl
theorem hT_X10_on : MX10_on.2.2.2.2 = some .int := rfl
theorem hM_X10_gets : MX10_gets.2.2.1 = cX10_gets := rfl
theorem hC_X10_gets : MX10_gets.1 = 10 := rfl
theorem hT_X10_gets : MX10_gets.2.2.2.2 = some .int := rfl
theorem hM_X10_loses : MX10_loses.2.2.1 = cX10_loses := rfl
theorem hC_X10_loses : MX10_loses.1 = 10 := rfl
theorem hT_X10_loses : MX10_loses.2.2.2.2 = some .int := rfl
theorem hM_X10_burns : MX10_burns.2.2.1 = cX10_burns := rfl
theorem hC_X10_burns : MX10_burns.1 = 10 := rfl
theorem hT_X10_burns : MX10_burns.2.2.2.2 = some .int := rfl
theorem hM_X10_cousin : MX10_cousin.2.2.1 = cX10_cousin := rfl
theorem hC_X10_cousin : MX10_cousin.1 = 10 := rfl
theorem hT_X10_cousin : MX10_cousin.2.2.2.2 = some .int := rfl
theorem hM_X10_kind : MX10_kind.2.2.1 = cX10_kind := rfl
theorem hC_X10_kind : MX10_kind.1 = 10 := rfl
theorem hT_X10_kind : MX10_kind.2.2.2.2 = some .int := rfl
theorem hM_X10_keep : MX10_keep.2.2.1 = cX10_keep := rfl
theorem hC_X10_keep : MX10_keep.1 = 10 := rfl
theorem hT_X10_keep : MX10_keep.2.2.2.2 = some .int := rfl
theorem hM_X10_best : MX10_best.2.2.1 = cX10_best := rfl
theorem hC_X10_best : MX10_best.1 = 10 := rfl
theorem hT_X10_best : MX10_best.2.2.2.2 = some .int := rfl
theorem hM_X10_richest : MX10_richest.2.2.1 = cX10_richest := rfl
theorem hC_X10_richest : MX10_richest.1 = 10 := rfl
theorem hT_X10_richest : MX10_richest.2.2.2.2 = some .int := rfl
theorem hM_X10_fewest : MX10_fewest.2.2.1 = cX10_fewest := rfl
theorem hC_X10_fewest : MX10_fewest.1 = 10 := rfl
theorem hT_X10_fewest : MX10_fewest.2.2.2.2 = some .int := rfl
theorem hM_X10_feed : MX10_feed.2.2.1 = cX10_feed := rfl
theorem hC_X10_feed : MX10_feed.1 = 10 := rfl
theorem hT_X10_feed : MX10_feed.2.2.2.2 = some .int := rfl
theorem hM_X10_wipe : MX10_wipe.2.2.1 = cX10_wipe := rfl
theorem hC_X10_wipe : MX10_wipe.1 = 10 := rfl
theorem hT_X10_wipe : MX10_wipe.2.2.2.2 = some .int := rfl
theorem hM_X10_family : MX10_family.2.2.1 = cX10_family := rfl
theorem hC_X10_family : MX10_family.1 = 10 := rfl
theorem hT_X10_family : MX10_family.2.2.2.2 = some .int := rfl
theorem hM_X10_sheet : MX10_sheet.2.2.1 = cX10_sheet := rfl
theorem hC_X10_sheet : MX10_sheet.1 = 10 := rfl
theorem hT_X10_sheet : MX10_sheet.2.2.2.2 = some .int := rfl
theorem hM_X10_write : MX10_write.2.2.1 = cX10_write := rfl
theorem hC_X10_write : MX10_write.1 = 10 := rfl
theorem hT_X10_write : MX10_write.2.2.2.2 = some .long := rfl
theorem hM_X10_copy : MX10_copy.2.2.1 = cX10_copy := rfl
theorem hC_X10_copy : MX10_copy.1 = 10 := rfl
theorem hT_X10_copy : MX10_copy.2.2.2.2 = some .int := rfl
theorem hM_X10_lays : MX10_lays.2.2.1 = cX10_lays := rfl
theorem hC_X10_lays : MX10_lays.1 = 10 := rfl
theorem hT_X10_lays : MX10_lays.2.2.2.2 = some .int := rfl
theorem hM_X10_book : MX10_book.2.2.1 = cX10_book := rfl
theorem hC_X10_book : MX10_book.1 = 10 := rfl
theorem hT_X10_book : MX10_book.2.2.2.2 = some .int := rfl
theorem hM_X10_read : MX10_read.2.2.1 = cX10_read := rfl
theorem hC_X10_read : MX10_read.1 = 10 := rfl
theorem hT_X10_read : MX10_read.2.2.2.2 = some .int := rfl
theorem hM_X10_image : MX10_image.2.2.1 = cX10_image := rfl
theorem hC_X10_image : MX10_image.1 = 10 := rfl
theorem hT_X10_image : MX10_image.2.2.2.2 = some .int := rfl
theorem hM_X10_undo : MX10_undo.2.2.1 = cX10_undo := rfl
theorem hC_X10_undo : MX10_undo.1 = 10 := rfl
theorem hT_X10_undo : MX10_undo.2.2.2.2 = some .int := rfl
theorem hM_X10_tear : MX10_tear.2.2.1 = cX10_tear := rfl
theorem hC_X10_tear : MX10_tear.1 = 10 := rfl
theorem hT_X10_tear : MX10_tear.2.2.2.2 = some .int := rfl
theorem hM_X10_count : MX10_count.2.2.1 = cX10_count := rfl
theorem hC_X10_count : MX10_count.1 = 10 := rfl
theorem hT_X10_count : MX10_count.2.2.2.2 = some .int := rfl
theorem hM_X10_status : MX10_status.2.2.1 = cX10_status := rfl
theorem hC_X10_status : MX10_status.1 = 10 := rfl
theorem hT_X10_status : MX10_status.2.2.2.2 = some .int := rfl
theorem hM_X10_found : MX10_found.2.2.1 = cX10_found := rfl
theorem hC_X10_found : MX10_found.1 = 10 := rfl
theorem hT_X10_found : MX10_found.2.2.2.2 = some .int := rfl
theorem hM_X10_isPerson : MX10_isPerson.2.2.1 = cX10_isPerson := rfl
theorem hC_X10_isPerson : MX10_isPerson.1 = 10 := rfl
theorem hT_X10_isPerson : MX10_isPerson.2.2.2.2 = some .boolean := rfl
theorem hM_X10_replace : MX10_replace.2.2.1 = cX10_replace := rfl
theorem hC_X10_replace : MX10_replace.1 = 10 := rfl
theorem hT_X10_replace : MX10_replace.2.2.2.2 = some .int := rfl
theorem hM_X10_firstYear : MX10_firstYear.2.2.1 = cX10_firstYear := rfl
theorem hC_X10_firstYear : MX10_firstYear.1 = 10 := rfl
theorem hT_X10_firstYear : MX10_firstYear.2.2.2.2 = some .int := rfl
theorem hM_X10_staysWithout : MX10_staysWithout.2.2.1 = cX10_staysWithout := rfl
theorem hC_X10_staysWithout : MX10_staysWithout.1 = 10 := rfl
theorem hT_X10_staysWithout : MX10_staysWithout.2.2.2.2 = some .boolean := rfl
theorem hM_X10_makes : MX10_makes.2.2.1 = cX10_makes := rfl
theorem hC_X10_makes : MX10_makes.1 = 10 := rfl
theorem hT_X10_makes : MX10_makes.2.2.2.2 = some .boolean := rfl
theorem hM_X10_isWithin : MX10_isWithin.2.2.1 = cX10_isWithin := rfl
theorem hC_X10_isWithin : MX10_isWithin.1 = 10 := rfl
theorem hT_X10_isWithin : MX10_isWithin.2.2.2.2 = some .boolean := rfl
theorem hM_X10_isThing : MX10_isThing.2.2.1 = cX10_isThing := rfl
theorem hC_X10_isThing : MX10_isThing.1 = 10 := rfl
theorem hT_X10_isThing : MX10_isThing.2.2.2.2 = some .boolean := rfl
theorem hM_X10_isWorth : MX10_isWorth.2.2.1 = cX10_isWorth := rfl
theorem hC_X10_isWorth : MX10_isWorth.1 = 10 := rfl
theorem hT_X10_isWorth : MX10_isWorth.2.2.2.2 = some .boolean := rfl
theorem hM_X10_isKind : MX10_isKind.2.2.1 = cX10_isKind := rfl
theorem hC_X10_isKind : MX10_isKind.1 = 10 := rfl
theorem hT_X10_isKind : MX10_isKind.2.2.2.2 = some .boolean := rfl
theorem hM_X10_isSheet : MX10_isSheet.2.2.1 = cX10_isSheet := rfl
theorem hC_X10_isSheet : MX10_isSheet.1 = 10 := rfl
theorem hT_X10_isSheet : MX10_isSheet.2.2.2.2 = some .boolean := rfl
theorem hM_X10_isUnder : MX10_isUnder.2.2.1 = cX10_isUnder := rfl
theorem hC_X10_isUnder : MX10_isUnder.1 = 10 := rfl
theorem hT_X10_isUnder : MX10_isUnder.2.2.2.2 = some .boolean := rfl
theorem hM_X10_setOf : MX10_setOf.2.2.1 = cX10_setOf := rfl
theorem hC_X10_setOf : MX10_setOf.1 = 10 := rfl
theorem hT_X10_setOf : MX10_setOf.2.2.2.2 = some .int := rfl
theorem hM_X10_contains : MX10_contains.2.2.1 = cX10_contains := rfl
theorem hC_X10_contains : MX10_contains.1 = 10 := rfl
theorem hT_X10_contains : MX10_contains.2.2.2.2 = some .boolean := rfl
theorem hM_X10_bestIn : MX10_bestIn.2.2.1 = cX10_bestIn := rfl
theorem hC_X10_bestIn : MX10_bestIn.1 = 10 := rfl
theorem hT_X10_bestIn : MX10_bestIn.2.2.2.2 = some .int := rfl
theorem hM_X10_worstIn : MX10_worstIn.2.2.1 = cX10_worstIn := rfl
theorem hC_X10_worstIn : MX10_worstIn.1 = 10 := rfl
theorem hT_X10_worstIn : MX10_worstIn.2.2.2.2 = some .int := rfl
theorem hM_X10_greatestIn : MX10_greatestIn.2.2.1 = cX10_greatestIn := rfl
theorem hC_X10_greatestIn : MX10_greatestIn.1 = 10 := rfl
theorem hT_X10_greatestIn : MX10_greatestIn.2.2.2.2 = some .int := rfl
theorem hM_X11_init : MX11_init.2.2.1 = cX11_init := rfl
theorem hC_X11_init : MX11_init.1 = 11 := rfl
theorem hT_X11_init : MX11_init.2.2.2.2 = none := rfl
theorem hM_X11_in : MX11_in.2.2.1 = cX11_in := rfl
theorem hC_X11_in : MX11_in.1 = 11 := rfl
theorem hT_X11_in : MX11_in.2.2.2.2 = some .boolean := rfl
theorem hM_X11_finds : MX11_finds.2.2.1 = cX11_finds := rfl
theorem hC_X11_finds : MX11_finds.1 = 11 := rfl
theorem hT_X11_finds : MX11_finds.2.2.2.2 = some .int := rfl
theorem hM_X11_held : MX11_held.2.2.1 = cX11_held := rfl
theorem hC_X11_held : MX11_held.1 = 11 := rfl
theorem hT_X11_held : MX11_held.2.2.2.2 = some .int := rfl
theorem hM_X11_its : MX11_its.2.2.1 = cX11_its := rfl
theorem hC_X11_its : MX11_its.1 = 11 := rfl
theorem hT_X11_its : MX11_its.2.2.2.2 = some .int := rfl
theorem hM_X11_puts : MX11_puts.2.2.1 = cX11_puts := rfl
theorem hC_X11_puts : MX11_puts.1 = 11 := rfl
theorem hT_X11_puts : MX11_puts.2.2.2.2 = none := rfl
theorem hM_X11_becomes : MX11_becomes.2.2.1 = cX11_becomes := rfl
theorem hC_X11_becomes : MX11_becomes.1 = 11 := rfl
theorem hT_X11_becomes : MX11_becomes.2.2.2.2 = some .int := rfl
theorem hM_X11_isOne : MX11_isOne.2.2.1 = cX11_isOne := rfl
theorem hC_X11_isOne : MX11_isOne.1 = 11 := rfl
theorem hT_X11_isOne : MX11_isOne.2.2.2.2 = some .boolean := rfl
theorem hM_X11_isKind : MX11_isKind.2.2.1 = cX11_isKind := rfl
theorem hC_X11_isKind : MX11_isKind.1 = 11 := rfl
theorem hT_X11_isKind : MX11_isKind.2.2.2.2 = some .boolean := rfl
theorem hM_X11_isThing : MX11_isThing.2.2.1 = cX11_isThing := rfl
theorem hC_X11_isThing : MX11_isThing.1 = 11 := rfl
theorem hT_X11_isThing : MX11_isThing.2.2.2.2 = some .boolean := rfl
theorem hM_X11_bits : MX11_bits.2.2.1 = cX11_bits := rfl
theorem hC_X11_bits : MX11_bits.1 = 11 := rfl
theorem hT_X11_bits : MX11_bits.2.2.2.2 = some .int := rfl
theorem hM_X11_bestOf : MX11_bestOf.2.2.1 = cX11_bestOf := rfl
theorem hC_X11_bestOf : MX11_bestOf.1 = 11 := rfl
theorem hT_X11_bestOf : MX11_bestOf.2.2.2.2 = some .int := rfl
theorem hM_X11_worstOf : MX11_worstOf.2.2.1 = cX11_worstOf := rfl
theorem hC_X11_worstOf : MX11_worstOf.1 = 11 := rfl
theorem hT_X11_worstOf : MX11_worstOf.2.2.2.2 = some .int := rfl
theorem hM_X11_lastOf : MX11_lastOf.2.2.1 = cX11_lastOf := rfl
theorem hC_X11_lastOf : MX11_lastOf.1 = 11 := rfl
theorem hT_X11_lastOf : MX11_lastOf.2.2.2.2 = some .int := rfl
theorem hM_X11_but : MX11_but.2.2.1 = cX11_but := rfl
theorem hC_X11_but : MX11_but.1 = 11 := rfl
theorem hT_X11_but : MX11_but.2.2.2.2 = some .int := rfl
theorem hM_X11_valueOf : MX11_valueOf.2.2.1 = cX11_valueOf := rfl
theorem hC_X11_valueOf : MX11_valueOf.1 = 11 := rfl
theorem hT_X11_valueOf : MX11_valueOf.2.2.2.2 = some .int := rfl
theorem hM_X11_worth : MX11_worth.2.2.1 = cX11_worth := rfl
theorem hC_X11_worth : MX11_worth.1 = 11 := rfl
theorem hT_X11_worth : MX11_worth.2.2.2.2 = some .int := rfl
theorem hM_X11_worthOf : MX11_worthOf.2.2.1 = cX11_worthOf := rfl
theorem hC_X11_worthOf : MX11_worthOf.1 = 11 := rfl
theorem hT_X11_worthOf : MX11_worthOf.2.2.2.2 = some .int := rfl
theorem hM_X11_who : MX11_who.2.2.1 = cX11_who := rfl
theorem hC_X11_who : MX11_who.1 = 11 := rfl
theorem hT_X11_who : MX11_who.2.2.2.2 = some .int := rfl
theorem hM_X11_shows : MX11_shows.2.2.1 = cX11_shows := rfl
theorem hC_X11_shows : MX11_shows.1 = 11 := rfl
theorem hT_X11_shows : MX11_shows.2.2.2.2 = some .int := rfl
theorem hM_X11_taken : MX11_taken.2.2.1 = cX11_taken := rfl
theorem hC_X11_taken : MX11_taken.1 = 11 := rfl
theorem hT_X11_taken : MX11_taken.2.2.2.2 = some .int := rfl
theorem hM_X11_findsAt : MX11_findsAt.2.2.1 = cX11_findsAt := rfl
theorem hC_X11_findsAt : MX11_findsAt.1 = 11 := rfl
theorem hT_X11_findsAt : MX11_findsAt.2.2.2.2 = some .int := rfl
theorem hM_X11_adds : MX11_adds.2.2.1 = cX11_adds := rfl
theorem hC_X11_adds : MX11_adds.1 = 11 := rfl
theorem hT_X11_adds : MX11_adds.2.2.2.2 = none := rfl
theorem hM_X11_person : MX11_person.2.2.1 = cX11_person := rfl
theorem hC_X11_person : MX11_person.1 = 11 := rfl
theorem hT_X11_person : MX11_person.2.2.2.2 = some .int := rfl
theorem hM_X11_of : MX11_of.2.2.1 = cX11_of := rfl
theorem hC_X11_of : MX11_of.1 = 11 := rfl
theorem hT_X11_of : MX11_of.2.2.2.2 = some .int := rfl
theorem hM_X11_isPart : MX11_isPart.2.2.1 = cX11_isPart := rfl
theorem hC_X11_isPart : MX11_isPart.1 = 11 := rfl
theorem hT_X11_isPart : MX11_isPart.2.2.2.2 = some .boolean := rfl
theorem hM_X11_set : MX11_set.2.2.1 = cX11_set := rfl
theorem hC_X11_set : MX11_set.1 = 11 := rfl
theorem hT_X11_set : MX11_set.2.2.2.2 = some .int := rfl
theorem hM_X11_turn : MX11_turn.2.2.1 = cX11_turn := rfl
theorem hC_X11_turn : MX11_turn.1 = 11 := rfl
theorem hT_X11_turn : MX11_turn.2.2.2.2 = some .int := rfl
theorem hM_X11_as : MX11_as.2.2.1 = cX11_as := rfl
theorem hC_X11_as : MX11_as.1 = 11 := rfl
theorem hT_X11_as : MX11_as.2.2.2.2 = some .int := rfl
theorem hM_X11_has : MX11_has.2.2.1 = cX11_has := rfl
theorem hC_X11_has : MX11_has.1 = 11 := rfl
theorem hT_X11_has : MX11_has.2.2.2.2 = some .boolean := rfl
theorem hM_X11_give : MX11_give.2.2.1 = cX11_give := rfl
theorem hC_X11_give : MX11_give.1 = 11 := rfl
theorem hT_X11_give : MX11_give.2.2.2.2 = some .int := rfl
theorem hM_X11_hand : MX11_hand.2.2.1 = cX11_hand := rfl
theorem hC_X11_hand : MX11_hand.1 = 11 := rfl
theorem hT_X11_hand : MX11_hand.2.2.2.2 = some .int := rfl
theorem hM_X11_crosses : MX11_crosses.2.2.1 = cX11_crosses := rfl
theorem hC_X11_crosses : MX11_crosses.1 = 11 := rfl
theorem hT_X11_crosses : MX11_crosses.2.2.2.2 = some .int := rfl
theorem hM_X11_border : MX11_border.2.2.1 = cX11_border := rfl
theorem hC_X11_border : MX11_border.1 = 11 := rfl
theorem hT_X11_border : MX11_border.2.2.2.2 = some .int := rfl
theorem hM_X11_ages : MX11_ages.2.2.1 = cX11_ages := rfl
theorem hC_X11_ages : MX11_ages.1 = 11 := rfl
theorem hT_X11_ages : MX11_ages.2.2.2.2 = none := rfl
theorem hM_X11_oneYear : MX11_oneYear.2.2.1 = cX11_oneYear := rfl
theorem hC_X11_oneYear : MX11_oneYear.1 = 11 := rfl
theorem hT_X11_oneYear : MX11_oneYear.2.2.2.2 = none := rfl
theorem hM_X11_passes : MX11_passes.2.2.1 = cX11_passes := rfl
theorem hC_X11_passes : MX11_passes.1 = 11 := rfl
theorem hT_X11_passes : MX11_passes.2.2.2.2 = none := rfl
theorem hM_X11_sumOf : MX11_sumOf.2.2.1 = cX11_sumOf := rfl
theorem hC_X11_sumOf : MX11_sumOf.1 = 11 := rfl
theorem hT_X11_sumOf : MX11_sumOf.2.2.2.2 = some .int := rfl
theorem hM_X11_years : MX11_years.2.2.1 = cX11_years := rfl
theorem hC_X11_years : MX11_years.1 = 11 := rfl
theorem hT_X11_years : MX11_years.2.2.2.2 = some .int := rfl
theorem hM_X11_oldest : MX11_oldest.2.2.1 = cX11_oldest := rfl
theorem hC_X11_oldest : MX11_oldest.1 = 11 := rfl
theorem hT_X11_oldest : MX11_oldest.2.2.2.2 = some .int := rfl
theorem hM_X11_valueOfAll : MX11_valueOfAll.2.2.1 = cX11_valueOfAll := rfl
theorem hC_X11_valueOfAll : MX11_valueOfAll.1 = 11 := rfl
theorem hT_X11_valueOfAll : MX11_valueOfAll.2.2.2.2 = some .int := rfl
theorem hM_X11_hadByAny : MX11_hadByAny.2.2.1 = cX11_hadByAny := rfl
theorem hC_X11_hadByAny : MX11_hadByAny.1 = 11 := rfl
theorem hT_X11_hadByAny : MX11_hadByAny.2.2.2.2 = some .int := rfl
theorem hM_X11_now : MX11_now.2.2.1 = cX11_now := rfl
theorem hC_X11_now : MX11_now.1 = 11 := rfl
theorem hT_X11_now : MX11_now.2.2.2.2 = some .int := rfl
theorem hM_X11_on : MX11_on.2.2.1 = cX11_on := rfl
theorem hC_X11_on : MX11_on.1 = 11 := rfl
theorem hT_X11_on : MX11_on.2.2.2.2 = some .int := rfl
theorem hM_X11_firstOf : MX11_firstOf.2.2.1 = cX11_firstOf := rfl
theorem hC_X11_firstOf : MX11_firstOf.1 = 11 := rfl
theorem hT_X11_firstOf : MX11_firstOf.2.2.2.2 = some .int := rfl
theorem hM_X11_gets : MX11_gets.2.2.1 = cX11_gets := rfl
theorem hC_X11_gets : MX11_gets.1 = 11 := rfl
theorem hT_X11_gets : MX11_gets.2.2.2.2 = some .int := rfl
theorem hM_X11_loses : MX11_loses.2.2.1 = cX11_loses := rfl
theorem hC_X11_loses : MX11_loses.1 = 11 := rfl
theorem hT_X11_loses : MX11_loses.2.2.2.2 = some .int := rfl
theorem hM_X11_burns : MX11_burns.2.2.1 = cX11_burns := rfl
theorem hC_X11_burns : MX11_burns.1 = 11 := rfl
theorem hT_X11_burns : MX11_burns.2.2.2.2 = some .int := rfl
theorem hM_X11_valueWith : MX11_valueWith.2.2.1 = cX11_valueWith := rfl
theorem hC_X11_valueWith : MX11_valueWith.1 = 11 := rfl
theorem hT_X11_valueWith : MX11_valueWith.2.2.2.2 = some .int := rfl
theorem hM_X11_cousin : MX11_cousin.2.2.1 = cX11_cousin := rfl
theorem hC_X11_cousin : MX11_cousin.1 = 11 := rfl
theorem hT_X11_cousin : MX11_cousin.2.2.2.2 = some .int := rfl
theorem hM_X11_kind : MX11_kind.2.2.1 = cX11_kind := rfl
theorem hC_X11_kind : MX11_kind.1 = 11 := rfl
theorem hT_X11_kind : MX11_kind.2.2.2.2 = some .int := rfl
theorem hM_X11_keep : MX11_keep.2.2.1 = cX11_keep := rfl
theorem hC_X11_keep : MX11_keep.1 = 11 := rfl
theorem hT_X11_keep : MX11_keep.2.2.2.2 = some .int := rfl
theorem hM_X11_best : MX11_best.2.2.1 = cX11_best := rfl
theorem hC_X11_best : MX11_best.1 = 11 := rfl
theorem hT_X11_best : MX11_best.2.2.2.2 = some .int := rfl
theorem hM_X11_richest : MX11_richest.2.2.1 = cX11_richest := rfl
theorem hC_X11_richest : MX11_richest.1 = 11 := rfl
theorem hT_X11_richest : MX11_richest.2.2.2.2 = some .int := rfl
theorem hM_X11_fewest : MX11_fewest.2.2.1 = cX11_fewest := rfl
theorem hC_X11_fewest : MX11_fewest.1 = 11 := rfl
theorem hT_X11_fewest : MX11_fewest.2.2.2.2 = some .int := rfl
theorem hM_X11_feed : MX11_feed.2.2.1 = cX11_feed := rfl
theorem hC_X11_feed : MX11_feed.1 = 11 := rfl
theorem hT_X11_feed : MX11_feed.2.2.2.2 = some .int := rfl
theorem hM_X11_wipe : MX11_wipe.2.2.1 = cX11_wipe := rfl
theorem hC_X11_wipe : MX11_wipe.1 = 11 := rfl
theorem hT_X11_wipe : MX11_wipe.2.2.2.2 = some .int := rfl
theorem hM_X11_byteAt : MX11_byteAt.2.2.1 = cX11_byteAt := rfl
theorem hC_X11_byteAt : MX11_byteAt.1 = 11 := rfl
theorem hT_X11_byteAt : MX11_byteAt.2.2.2.2 = some .int := rfl
theorem hM_X11_isLetter : MX11_isLetter.2.2.1 = cX11_isLetter := rfl
theorem hC_X11_isLetter : MX11_isLetter.1 = 11 := rfl
theorem hT_X11_isLetter : MX11_isLetter.2.2.2.2 = some .boolean := rfl
theorem hM_X11_isDigit : MX11_isDigit.2.2.1 = cX11_isDigit := rfl
theorem hC_X11_isDigit : MX11_isDigit.1 = 11 := rfl
theorem hT_X11_isDigit : MX11_isDigit.2.2.2.2 = some .boolean := rfl
theorem hM_X11_advance : MX11_advance.2.2.1 = cX11_advance := rfl
theorem hC_X11_advance : MX11_advance.1 = 11 := rfl
theorem hT_X11_advance : MX11_advance.2.2.2.2 = none := rfl
theorem hM_X11_isWord : MX11_isWord.2.2.1 = cX11_isWord := rfl
theorem hC_X11_isWord : MX11_isWord.1 = 11 := rfl
theorem hT_X11_isWord : MX11_isWord.2.2.2.2 = some .boolean := rfl
theorem hM_X11_kindHere : MX11_kindHere.2.2.1 = cX11_kindHere := rfl
theorem hC_X11_kindHere : MX11_kindHere.1 = 11 := rfl
theorem hT_X11_kindHere : MX11_kindHere.2.2.2.2 = some .int := rfl
theorem hM_X11_wantNumber : MX11_wantNumber.2.2.1 = cX11_wantNumber := rfl
theorem hC_X11_wantNumber : MX11_wantNumber.1 = 11 := rfl
theorem hT_X11_wantNumber : MX11_wantNumber.2.2.2.2 = some .int := rfl
theorem hM_X11_mayWant : MX11_mayWant.2.2.1 = cX11_mayWant := rfl
theorem hC_X11_mayWant : MX11_mayWant.1 = 11 := rfl
theorem hT_X11_mayWant : MX11_mayWant.2.2.2.2 = some .int := rfl
theorem hM_X11_mayHave : MX11_mayHave.2.2.1 = cX11_mayHave := rfl
theorem hC_X11_mayHave : MX11_mayHave.1 = 11 := rfl
theorem hT_X11_mayHave : MX11_mayHave.2.2.2.2 = some .int := rfl
theorem hM_X11_wantOne : MX11_wantOne.2.2.1 = cX11_wantOne := rfl
theorem hC_X11_wantOne : MX11_wantOne.1 = 11 := rfl
theorem hT_X11_wantOne : MX11_wantOne.2.2.2.2 = none := rfl
theorem hM_X11_wantItem : MX11_wantItem.2.2.1 = cX11_wantItem := rfl
theorem hC_X11_wantItem : MX11_wantItem.1 = 11 := rfl
theorem hT_X11_wantItem : MX11_wantItem.2.2.2.2 = none := rfl
theorem hM_X11_family : MX11_family.2.2.1 = cX11_family := rfl
theorem hC_X11_family : MX11_family.1 = 11 := rfl
theorem hT_X11_family : MX11_family.2.2.2.2 = some .int := rfl
theorem hM_X11_isSheet : MX11_isSheet.2.2.1 = cX11_isSheet := rfl
theorem hC_X11_isSheet : MX11_isSheet.1 = 11 := rfl
theorem hT_X11_isSheet : MX11_isSheet.2.2.2.2 = some .boolean := rfl
theorem hM_X11_narrow : MX11_narrow.2.2.1 = cX11_narrow := rfl
theorem hC_X11_narrow : MX11_narrow.1 = 11 := rfl
theorem hT_X11_narrow : MX11_narrow.2.2.2.2 = some .long := rfl
theorem hM_X11_sheet : MX11_sheet.2.2.1 = cX11_sheet := rfl
theorem hC_X11_sheet : MX11_sheet.1 = 11 := rfl
theorem hT_X11_sheet : MX11_sheet.2.2.2.2 = some .int := rfl
theorem hM_X11_write : MX11_write.2.2.1 = cX11_write := rfl
theorem hC_X11_write : MX11_write.1 = 11 := rfl
theorem hT_X11_write : MX11_write.2.2.2.2 = some .long := rfl
theorem hM_X11_isPart_ : MX11_isPart_.2.2.1 = cX11_isPart_ := rfl
theorem hC_X11_isPart_ : MX11_isPart_.1 = 11 := rfl
theorem hT_X11_isPart_ : MX11_isPart_.2.2.2.2 = some .boolean := rfl
theorem hM_X11_copy : MX11_copy.2.2.1 = cX11_copy := rfl
theorem hC_X11_copy : MX11_copy.1 = 11 := rfl
theorem hT_X11_copy : MX11_copy.2.2.2.2 = some .int := rfl
theorem hM_X11_badSheet : MX11_badSheet.2.2.1 = cX11_badSheet := rfl
theorem hC_X11_badSheet : MX11_badSheet.1 = 11 := rfl
theorem hT_X11_badSheet : MX11_badSheet.2.2.2.2 = some .int := rfl
theorem hM_X11_lays : MX11_lays.2.2.1 = cX11_lays := rfl
theorem hC_X11_lays : MX11_lays.1 = 11 := rfl
theorem hT_X11_lays : MX11_lays.2.2.2.2 = some .int := rfl
theorem hM_X11_book : MX11_book.2.2.1 = cX11_book := rfl
theorem hC_X11_book : MX11_book.1 = 11 := rfl
theorem hT_X11_book : MX11_book.2.2.2.2 = some .int := rfl
theorem hM_X11_isSo : MX11_isSo.2.2.1 = cX11_isSo := rfl
theorem hC_X11_isSo : MX11_isSo.1 = 11 := rfl
theorem hT_X11_isSo : MX11_isSo.2.2.2.2 = some .boolean := rfl
theorem hM_X11_read : MX11_read.2.2.1 = cX11_read := rfl
theorem hC_X11_read : MX11_read.1 = 11 := rfl
theorem hT_X11_read : MX11_read.2.2.2.2 = some .int := rfl
theorem hM_X11_moveAll : MX11_moveAll.2.2.1 = cX11_moveAll := rfl
theorem hC_X11_moveAll : MX11_moveAll.1 = 11 := rfl
theorem hT_X11_moveAll : MX11_moveAll.2.2.2.2 = none := rfl
theorem hM_X11_image : MX11_image.2.2.1 = cX11_image := rfl
theorem hC_X11_image : MX11_image.1 = 11 := rfl
theorem hT_X11_image : MX11_image.2.2.2.2 = some .int := rfl
theorem hM_X11_undo : MX11_undo.2.2.1 = cX11_undo := rfl
theorem hC_X11_undo : MX11_undo.1 = 11 := rfl
theorem hT_X11_undo : MX11_undo.2.2.2.2 = some .int := rfl
theorem hM_X11_tear : MX11_tear.2.2.1 = cX11_tear := rfl
theorem hC_X11_tear : MX11_tear.1 = 11 := rfl
theorem hT_X11_tear : MX11_tear.2.2.2.2 = some .int := rfl
theorem hM_X11_count : MX11_count.2.2.1 = cX11_count := rfl
theorem hC_X11_count : MX11_count.1 = 11 := rfl
theorem hT_X11_count : MX11_count.2.2.2.2 = some .int := rfl
theorem hM_X11_thingsOf : MX11_thingsOf.2.2.1 = cX11_thingsOf := rfl
theorem hC_X11_thingsOf : MX11_thingsOf.1 = 11 := rfl
theorem hT_X11_thingsOf : MX11_thingsOf.2.2.2.2 = some .int := rfl
theorem hM_X11_status : MX11_status.2.2.1 = cX11_status := rfl
theorem hC_X11_status : MX11_status.1 = 11 := rfl
theorem hT_X11_status : MX11_status.2.2.2.2 = some .int := rfl
theorem hM_J6_bitCount_0f7a4 : MJ6_bitCount_0f7a4.2.2.1 = cJ6_bitCount_0f7a4 := rfl
theorem hC_J6_bitCount_0f7a4 : MJ6_bitCount_0f7a4.1 = 26 := rfl
theorem hT_J6_bitCount_0f7a4 : MJ6_bitCount_0f7a4.2.2.2.2 = some .int := rfl
theorem hM_J9_min_7cf53 : MJ9_min_7cf53.2.2.1 = cJ9_min_7cf53 := rfl
theorem hC_J9_min_7cf53 : MJ9_min_7cf53.1 = 29 := rfl
theorem hT_J9_min_7cf53 : MJ9_min_7cf53.2.2.2.2 = some .int := rfl
theorem hM_J0_length_8abf5 : MJ0_length_8abf5.2.2.1 = cJ0_length_8abf5 := rfl
theorem hC_J0_length_8abf5 : MJ0_length_8abf5.1 = 20 := rfl
theorem hT_J0_length_8abf5 : MJ0_length_8abf5.2.2.2.2 = some .int := rfl
theorem hM_J0_charAt_5068e : MJ0_charAt_5068e.2.2.1 = cJ0_charAt_5068e := rfl
theorem hC_J0_charAt_5068e : MJ0_charAt_5068e.1 = 20 := rfl
theorem hT_J0_charAt_5068e : MJ0_charAt_5068e.2.2.2.2 = some .char := rfl
theorem hM_J0_coder_7d493 : MJ0_coder_7d493.2.2.1 = cJ0_coder_7d493 := rfl
theorem hC_J0_coder_7d493 : MJ0_coder_7d493.1 = 20 := rfl
theorem hT_J0_coder_7d493 : MJ0_coder_7d493.2.2.2.2 = some .byte := rfl
theorem hM_J0_isLatin1_aae02 : MJ0_isLatin1_aae02.2.2.1 = cJ0_isLatin1_aae02 := rfl
theorem hC_J0_isLatin1_aae02 : MJ0_isLatin1_aae02.1 = 20 := rfl
theorem hT_J0_isLatin1_aae02 : MJ0_isLatin1_aae02.2.2.2.2 = some .boolean := rfl
theorem hM_J0_checkIndex_df160 : MJ0_checkIndex_df160.2.2.1 = cJ0_checkIndex_df160 := rfl
theorem hC_J0_checkIndex_df160 : MJ0_checkIndex_df160.1 = 20 := rfl
theorem hT_J0_checkIndex_df160 : MJ0_checkIndex_df160.2.2.2.2 = none := rfl
theorem hM_J1_charAt_3b067 : MJ1_charAt_3b067.2.2.1 = cJ1_charAt_3b067 := rfl
theorem hC_J1_charAt_3b067 : MJ1_charAt_3b067.1 = 21 := rfl
theorem hT_J1_charAt_3b067 : MJ1_charAt_3b067.2.2.2.2 = some .char := rfl
theorem hM_J7_fill_d0a16 : MJ7_fill_d0a16.2.2.1 = cJ7_fill_d0a16 := rfl
theorem hC_J7_fill_d0a16 : MJ7_fill_d0a16.1 = 27 := rfl
theorem hT_J7_fill_d0a16 : MJ7_fill_d0a16.2.2.2.2 = none := rfl
theorem hM_J3_checkIndex_8e157 : MJ3_checkIndex_8e157.2.2.1 = cJ3_checkIndex_8e157 := rfl
theorem hC_J3_checkIndex_8e157 : MJ3_checkIndex_8e157.1 = 23 := rfl
theorem hT_J3_checkIndex_8e157 : MJ3_checkIndex_8e157.2.2.2.2 = some .int := rfl
theorem hM_L_law : ML_law.2.2.1 = cL_law := rfl
theorem hC_L_law : ML_law.1 = 12 := rfl
theorem hT_L_law : ML_law.2.2.2.2 = some .boolean := rfl
theorem rf_1_9 : mx_fld 1 9 = some (1, 1, false) := rfl
theorem rf_1_15 : mx_fld 1 15 = some (1, 2, false) := rfl
theorem rf_1_18 : mx_fld 1 18 = some (1, 3, false) := rfl
theorem rf_1_21 : mx_fld 1 21 = some (1, 4, false) := rfl
theorem rf_1_24 : mx_fld 1 24 = some (1, 5, false) := rfl
theorem rf_1_27 : mx_fld 1 27 = some (1, 6, false) := rfl
theorem rf_1_30 : mx_fld 1 30 = some (1, 0, false) := rfl
theorem rf_1_40 : mx_fld 1 40 = some (1, 7, false) := rfl
theorem rf_1_44 : mx_fld 1 44 = some (1, 8, false) := rfl
theorem rf_1_47 : mx_fld 1 47 = some (1, 9, false) := rfl
theorem rf_5_9 : mx_fld 5 9 = some (5, 0, false) := rfl
theorem rf_5_15 : mx_fld 5 15 = some (5, 1, false) := rfl
theorem rf_5_19 : mx_fld 5 19 = some (5, 2, false) := rfl
theorem rf_7_9 : mx_fld 7 9 = some (7, 0, false) := rfl
theorem rf_7_15 : mx_fld 7 15 = some (7, 1, false) := rfl
theorem rf_8_9 : mx_fld 8 9 = some (8, 0, false) := rfl
theorem rf_8_15 : mx_fld 8 15 = some (8, 1, false) := rfl
theorem rf_8_19 : mx_fld 8 19 = some (8, 4, false) := rfl
theorem rf_8_30 : mx_fld 8 30 = some (8, 3, false) := rfl
theorem rf_8_33 : mx_fld 8 33 = some (8, 2, false) := rfl
theorem rf_8_58 : mx_fld 8 58 = some (1, 7, true) := rfl
theorem rf_8_72 : mx_fld 8 72 = some (1, 3, true) := rfl
theorem rf_8_76 : mx_fld 8 76 = some (8, 5, false) := rfl
theorem rf_8_86 : mx_fld 8 86 = some (1, 5, true) := rfl
theorem rf_8_89 : mx_fld 8 89 = some (1, 4, true) := rfl
theorem rf_8_95 : mx_fld 8 95 = some (1, 1, true) := rfl
theorem rf_8_98 : mx_fld 8 98 = some (1, 8, true) := rfl
theorem rf_8_105 : mx_fld 8 105 = some (7, 0, true) := rfl
theorem rf_8_130 : mx_fld 8 130 = some (7, 1, true) := rfl
theorem rf_10_30 : mx_fld 10 30 = some (10, 0, false) := rfl
theorem rf_10_36 : mx_fld 10 36 = some (10, 1, false) := rfl
theorem rf_10_39 : mx_fld 10 39 = some (10, 2, false) := rfl
theorem rf_10_42 : mx_fld 10 42 = some (10, 3, false) := rfl
theorem rf_10_49 : mx_fld 10 49 = some (10, 4, false) := rfl
theorem rf_10_58 : mx_fld 10 58 = some (10, 5, false) := rfl
theorem rf_10_64 : mx_fld 10 64 = some (10, 6, false) := rfl
theorem rf_10_69 : mx_fld 10 69 = some (10, 7, false) := rfl
theorem rf_10_85 : mx_fld 10 85 = some (1, 1, true) := rfl
theorem rf_10_88 : mx_fld 10 88 = some (1, 7, true) := rfl
theorem rf_10_106 : mx_fld 10 106 = some (1, 2, true) := rfl
theorem rf_10_109 : mx_fld 10 109 = some (1, 3, true) := rfl
theorem rf_10_112 : mx_fld 10 112 = some (1, 4, true) := rfl
theorem rf_10_115 : mx_fld 10 115 = some (1, 5, true) := rfl
theorem rf_10_118 : mx_fld 10 118 = some (1, 6, true) := rfl
theorem rf_10_153 : mx_fld 10 153 = some (1, 9, true) := rfl
theorem rf_10_164 : mx_fld 10 164 = some (1, 8, true) := rfl
theorem rf_10_198 : mx_fld 10 198 = some (7, 1, true) := rfl
theorem rf_10_214 : mx_fld 10 214 = some (5, 2, true) := rfl
theorem rf_10_222 : mx_fld 10 222 = some (5, 0, true) := rfl
theorem rf_10_230 : mx_fld 10 230 = some (5, 1, true) := rfl
theorem rf_11_7 : mx_fld 11 7 = some (11, 0, false) := rfl
theorem rf_11_13 : mx_fld 11 13 = some (11, 1, false) := rfl
theorem rf_11_16 : mx_fld 11 16 = some (11, 2, false) := rfl
theorem rf_11_19 : mx_fld 11 19 = some (11, 3, false) := rfl
theorem rf_11_22 : mx_fld 11 22 = some (11, 4, false) := rfl
theorem rf_11_25 : mx_fld 11 25 = some (11, 12, false) := rfl
theorem rf_11_28 : mx_fld 11 28 = some (11, 13, false) := rfl
theorem rf_11_31 : mx_fld 11 31 = some (11, 14, false) := rfl
theorem rf_11_35 : mx_fld 11 35 = some (11, 15, false) := rfl
theorem rf_11_38 : mx_fld 11 38 = some (11, 16, false) := rfl
theorem rf_11_41 : mx_fld 11 41 = some (11, 17, false) := rfl
theorem rf_11_159 : mx_fld 11 159 = some (11, 5, false) := rfl
theorem rf_11_163 : mx_fld 11 163 = some (11, 8, false) := rfl
theorem rf_11_166 : mx_fld 11 166 = some (11, 7, false) := rfl
theorem rf_11_178 : mx_fld 11 178 = some (11, 6, false) := rfl
theorem rf_11_181 : mx_fld 11 181 = some (11, 9, false) := rfl
theorem rf_11_185 : mx_fld 11 185 = some (11, 10, false) := rfl
theorem rf_11_210 : mx_fld 11 210 = some (11, 11, false) := rfl
theorem rf_11_264 : mx_fld 11 264 = some (11, 18, false) := rfl
theorem rl_8_44 : mx_ldc 8 44 = some (.ref 1009) := rfl
theorem rl_8_53 : mx_ldc 8 53 = some (.ref 1010) := rfl
theorem rl_8_67 : mx_ldc 8 67 = some (.ref 1006) := rfl
theorem rl_8_79 : mx_ldc 8 79 = some (.ref 1007) := rfl
theorem rl_8_84 : mx_ldc 8 84 = some (.ref 1008) := rfl
theorem rl_8_118 : mx_ldc 8 118 = some (.ref 1000) := rfl
theorem rl_8_120 : mx_ldc 8 120 = some (.ref 1001) := rfl
theorem rl_8_122 : mx_ldc 8 122 = some (.ref 1002) := rfl
theorem rl_8_124 : mx_ldc 8 124 = some (.ref 1003) := rfl
theorem rl_8_126 : mx_ldc 8 126 = some (.ref 1004) := rfl
theorem rl_8_128 : mx_ldc 8 128 = some (.ref 1005) := rfl
theorem rl_10_80 : mx_ldc 10 80 = some (.int (-1000000001)) := rfl
theorem rl_10_99 : mx_ldc 10 99 = some (.int (-1000000002)) := rfl
theorem rl_10_137 : mx_ldc 10 137 = some (.int (65535)) := rfl
theorem rl_10_141 : mx_ldc 10 141 = some (.int (-1000000003)) := rfl
theorem rl_10_145 : mx_ldc 10 145 = some (.int (-1000000005)) := rfl
theorem rl_10_187 : mx_ldc 10 187 = some (.int (-1000000004)) := rfl
theorem rl_10_193 : mx_ldc 10 193 = some (.int (-1000000007)) := rfl
theorem rl_10_221 : mx_ldc 10 221 = some (.int (-1000000006)) := rfl
theorem rl_10_242 : mx_ldc 10 242 = some (.long (99)) := rfl
theorem rl_11_44 : mx_ldc 11 44 = some (.int (-1000000001)) := rfl
theorem rl_11_89 : mx_ldc 11 89 = some (.int (-1000000002)) := rfl
theorem rl_11_106 : mx_ldc 11 106 = some (.int (65535)) := rfl
theorem rl_11_111 : mx_ldc 11 111 = some (.int (-1000000003)) := rfl
theorem rl_11_115 : mx_ldc 11 115 = some (.int (-1000000005)) := rfl
theorem rl_11_150 : mx_ldc 11 150 = some (.int (-1000000004)) := rfl
theorem rl_11_158 : mx_ldc 11 158 = some (.int (-1000000007)) := rfl
theorem rl_11_188 : mx_ldc 11 188 = some (.long (27)) := rfl
theorem rl_11_190 : mx_ldc 11 190 = some (.long (96)) := rfl
theorem rl_11_192 : mx_ldc 11 192 = some (.long (-1)) := rfl
theorem rl_11_194 : mx_ldc 11 194 = some (.long (232608281)) := rfl
theorem rl_11_200 : mx_ldc 11 200 = some (.long (4431744)) := rfl
theorem rl_11_202 : mx_ldc 11 202 = some (.long (7442488432)) := rfl
theorem rl_11_204 : mx_ldc 11 204 = some (.long (35390)) := rfl
theorem rl_11_206 : mx_ldc 11 206 = some (.long (5607315613638)) := rfl
theorem rl_11_208 : mx_ldc 11 208 = some (.long (11438339)) := rfl
theorem rl_11_220 : mx_ldc 11 220 = some (.long (5878)) := rfl
theorem rl_11_222 : mx_ldc 11 222 = some (.long (923)) := rfl
theorem rl_11_231 : mx_ldc 11 231 = some (.long (51445787)) := rfl
theorem rl_11_239 : mx_ldc 11 239 = some (.long (12532058)) := rfl
theorem rl_11_241 : mx_ldc 11 241 = some (.long (40222714)) := rfl
theorem rl_11_249 : mx_ldc 11 249 = some (.int (-1000000006)) := rfl
theorem rl_11_259 : mx_ldc 11 259 = some (.long (99)) := rfl
theorem rl_12_125 : mx_ldc 12 125 = some (.long (4294967295)) := rfl
theorem rl_26_265 : mx_ldc 26 265 = some (.int (1431655765)) := rfl
theorem rl_26_266 : mx_ldc 26 266 = some (.int (858993459)) := rfl
theorem rl_26_267 : mx_ldc 26 267 = some (.int (252645135)) := rfl
theorem rc_0_3_100 : mx_call 0 3 100 = some (5, 0, MX3_init) := rfl
theorem rc_0_9_100 : mx_call 0 9 100 = some (1, 1, MX10_greatestIn) := rfl
theorem rc_0_13_100 : mx_call 0 13 100 = some (7, 1, MX3_finds) := rfl
theorem rc_1_50_100 : mx_call 1 50 100 = some (1, 2, MX10_contains) := rfl
theorem rc_1_54_0 : mx_call 1 54 0 = some (8, 3, MX3_shows) := rfl
theorem rc_1_54_2 : mx_call 1 54 2 = some (8, 3, MX2_shows) := rfl
theorem rc_1_54_3 : mx_call 1 54 3 = some (8, 3, MX3_shows) := rfl
theorem rc_1_54_4 : mx_call 1 54 4 = some (8, 3, MX3_shows) := rfl
theorem rc_1_54_6 : mx_call 1 54 6 = some (8, 3, MX6_shows) := rfl
theorem rc_1_54_9 : mx_call 1 54 9 = some (8, 3, MX9_shows) := rfl
theorem rc_1_60_0 : mx_call 1 60 0 = some (8, 2, MX0_taken) := rfl
theorem rc_1_60_2 : mx_call 1 60 2 = some (8, 2, MX3_taken) := rfl
theorem rc_1_60_3 : mx_call 1 60 3 = some (8, 2, MX3_taken) := rfl
theorem rc_1_60_4 : mx_call 1 60 4 = some (8, 2, MX4_taken) := rfl
theorem rc_1_60_6 : mx_call 1 60 6 = some (8, 2, MX3_taken) := rfl
theorem rc_1_60_9 : mx_call 1 60 9 = some (8, 2, MX9_taken) := rfl
theorem rc_1_64_0 : mx_call 1 64 0 = some (8, 1, MX0_finds) := rfl
theorem rc_1_64_2 : mx_call 1 64 2 = some (8, 1, MX3_finds) := rfl
theorem rc_1_64_3 : mx_call 1 64 3 = some (8, 1, MX3_finds) := rfl
theorem rc_1_64_4 : mx_call 1 64 4 = some (8, 1, MX4_finds) := rfl
theorem rc_1_64_6 : mx_call 1 64 6 = some (8, 1, MX3_finds) := rfl
theorem rc_1_64_9 : mx_call 1 64 9 = some (8, 1, MX9_finds) := rfl
theorem rc_1_68_1 : mx_call 1 68 1 = some (2, 1, MX1_takenFrom) := rfl
theorem rc_1_71_100 : mx_call 1 71 100 = some (1, 1, MX10_setOf) := rfl
theorem rc_1_80_1 : mx_call 1 80 1 = some (2, 1, MX1_holdBorder) := rfl
theorem rc_1_83_1 : mx_call 1 83 1 = some (2, 2, MX1_has) := rfl
theorem rc_1_86_1 : mx_call 1 86 1 = some (2, 1, MX1_pocketWorth) := rfl
theorem rc_1_89_100 : mx_call 1 89 100 = some (0, 1, MJ6_bitCount_0f7a4) := rfl
theorem rc_2_1_100 : mx_call 2 1 100 = some (5, 0, MX3_init) := rfl
theorem rc_2_7_100 : mx_call 2 7 100 = some (7, 3, MX3_shows) := rfl
theorem rc_2_11_100 : mx_call 2 11 100 = some (1, 2, MX10_bestIn) := rfl
theorem rc_2_17_100 : mx_call 2 17 100 = some (1, 1, MX10_setOf) := rfl
theorem rc_3_9_100 : mx_call 3 9 100 = some (1, 2, MX10_bestIn) := rfl
theorem rc_4_3_100 : mx_call 4 3 100 = some (5, 0, MX3_init) := rfl
theorem rc_4_9_100 : mx_call 4 9 100 = some (1, 2, MX10_worstIn) := rfl
theorem rc_4_13_100 : mx_call 4 13 100 = some (7, 1, MX3_finds) := rfl
theorem rc_5_22_100 : mx_call 5 22 100 = some (0, 2, MJ7_fill_d0a16) := rfl
theorem rc_6_1_100 : mx_call 6 1 100 = some (5, 0, MX2_init) := rfl
theorem rc_6_7_100 : mx_call 6 7 100 = some (7, 3, MX2_shows) := rfl
theorem rc_6_11_100 : mx_call 6 11 100 = some (1, 2, MX10_bestIn) := rfl
theorem rc_6_17_100 : mx_call 6 17 100 = some (1, 1, MX10_setOf) := rfl
theorem rc_8_23_8 : mx_call 8 23 8 = some (2, 0, MX8_next) := rfl
theorem rc_8_26_8 : mx_call 8 26 8 = some (2, 0, MX8_readItem) := rfl
theorem rc_8_36_8 : mx_call 8 36 8 = some (2, 0, MX8_kindNamed) := rfl
theorem rc_8_40_8 : mx_call 8 40 8 = some (2, 1, MX8_readPerson) := rfl
theorem rc_8_46_8 : mx_call 8 46 8 = some (2, 1, MX8_isWord) := rfl
theorem rc_8_50_8 : mx_call 8 50 8 = some (2, 0, MX8_readWorth) := rfl
theorem rc_8_55_8 : mx_call 8 55 8 = some (2, 0, MX8_readBurned) := rfl
theorem rc_8_63_1 : mx_call 8 63 1 = some (2, 1, MX1_addPerson) := rfl
theorem rc_8_69_8 : mx_call 8 69 8 = some (2, 1, MX8_isNumber) := rfl
theorem rc_8_81_8 : mx_call 8 81 8 = some (2, 1, MX8_readThings) := rfl
theorem rc_8_92_100 : mx_call 8 92 100 = some (1, 1, MX10_setOf) := rfl
theorem rc_8_100_20 : mx_call 8 100 20 = some (2, 0, MJ0_length_8abf5) := rfl
theorem rc_8_110_20 : mx_call 8 110 20 = some (2, 1, MJ0_charAt_5068e) := rfl
theorem rc_8_114_100 : mx_call 8 114 100 = some (0, 1, MX8_nameOfKind) := rfl
theorem rc_8_132_8 : mx_call 8 132 8 = some (2, 1, MX8_isLetter) := rfl
theorem rc_8_135_8 : mx_call 8 135 8 = some (2, 0, MX8_passWord) := rfl
theorem rc_8_138_8 : mx_call 8 138 8 = some (2, 1, MX8_isDigit) := rfl
theorem rc_8_141_8 : mx_call 8 141 8 = some (2, 0, MX8_passNumber) := rfl
theorem rc_9_3_100 : mx_call 9 3 100 = some (5, 0, MX4_init) := rfl
theorem rc_9_9_100 : mx_call 9 9 100 = some (9, 3, MX3_shows) := rfl
theorem rc_9_13_100 : mx_call 9 13 100 = some (7, 2, MX4_taken) := rfl
theorem rc_9_17_100 : mx_call 9 17 100 = some (1, 1, MX10_setOf) := rfl
theorem rc_9_21_100 : mx_call 9 21 100 = some (1, 2, MX10_worstIn) := rfl
theorem rc_10_9_100 : mx_call 10 9 100 = some (5, 0, MX3_init) := rfl
theorem rc_10_12_100 : mx_call 10 12 100 = some (5, 0, MX2_init) := rfl
theorem rc_10_15_100 : mx_call 10 15 100 = some (5, 0, MX4_init) := rfl
theorem rc_10_18_100 : mx_call 10 18 100 = some (5, 0, MX0_init) := rfl
theorem rc_10_21_100 : mx_call 10 21 100 = some (5, 0, MX6_init) := rfl
theorem rc_10_24_100 : mx_call 10 24 100 = some (5, 0, MX9_init) := rfl
theorem rc_10_27_100 : mx_call 10 27 100 = some (4, 1, MX1_init) := rfl
theorem rc_10_48_100 : mx_call 10 48 100 = some (5, 0, MX7_init) := rfl
theorem rc_10_55_100 : mx_call 10 55 100 = some (4, 2, MX8_init) := rfl
theorem rc_10_68_100 : mx_call 10 68 100 = some (5, 0, MX5_init) := rfl
theorem rc_10_73_100 : mx_call 10 73 100 = some (0, 1, MX10_isThing) := rfl
theorem rc_10_77_100 : mx_call 10 77 100 = some (0, 1, MX10_isWorth) := rfl
theorem rc_10_81_10 : mx_call 10 81 10 = some (2, 1, MX10_found) := rfl
theorem rc_10_92_1 : mx_call 10 92 1 = some (2, 2, MX1_has) := rfl
theorem rc_10_96_100 : mx_call 10 96 100 = some (0, 1, MX10_isKind) := rfl
theorem rc_10_100_1 : mx_call 10 100 1 = some (2, 1, MX1_addPerson) := rfl
theorem rc_10_103_10 : mx_call 10 103 10 = some (2, 1, MX10_isPerson) := rfl
theorem rc_10_121_1 : mx_call 10 121 1 = some (2, 1, MX1_shownBy) := rfl
theorem rc_10_124_1 : mx_call 10 124 1 = some (2, 1, MX1_takenFrom) := rfl
theorem rc_10_127_1 : mx_call 10 127 1 = some (2, 1, MX1_foundNextBy) := rfl
theorem rc_10_130_1 : mx_call 10 130 1 = some (2, 1, MX1_pocketWorth) := rfl
theorem rc_10_133_10 : mx_call 10 133 10 = some (2, 5, MX10_replace) := rfl
theorem rc_10_138_100 : mx_call 10 138 100 = some (0, 2, MX10_isUnder) := rfl
theorem rc_10_142_100 : mx_call 10 142 100 = some (0, 1, MX10_setOf) := rfl
theorem rc_10_146_1 : mx_call 10 146 1 = some (2, 1, MX1_holdBorder) := rfl
theorem rc_10_149_100 : mx_call 10 149 100 = some (0, 3, MX10_isWithin) := rfl
theorem rc_10_156_1 : mx_call 10 156 1 = some (2, 1, MX1_passYears) := rfl
theorem rc_10_160_1 : mx_call 10 160 1 = some (2, 0, MX1_lostByAll) := rfl
theorem rc_10_167_1 : mx_call 10 167 1 = some (2, 0, MX1_theOldest) := rfl
theorem rc_10_170_1 : mx_call 10 170 1 = some (2, 0, MX1_worthOfAllPockets) := rfl
theorem rc_10_173_1 : mx_call 10 173 1 = some (2, 0, MX1_ownedThings) := rfl
theorem rc_10_176_1 : mx_call 10 176 1 = some (2, 1, MX1_becomes) := rfl
theorem rc_10_180_10 : mx_call 10 180 10 = some (2, 3, MX10_firstYear) := rfl
theorem rc_10_184_100 : mx_call 10 184 100 = some (0, 2, MX10_contains) := rfl
theorem rc_10_188_100 : mx_call 10 188 100 = some (0, 1, MJ6_bitCount_0f7a4) := rfl
theorem rc_10_194_10 : mx_call 10 194 10 = some (2, 4, MX10_staysWithout) := rfl
theorem rc_10_201_7 : mx_call 10 201 7 = some (2, 1, MX7_append) := rfl
theorem rc_10_204_8 : mx_call 10 204 8 = some (2, 0, MX8_readText) := rfl
theorem rc_10_207_100 : mx_call 10 207 100 = some (0, 1, MX10_isSheet) := rfl
theorem rc_10_210_5 : mx_call 10 210 5 = some (2, 2, MX5_begin) := rfl
theorem rc_10_217_5 : mx_call 10 217 5 = some (2, 0, MX5_isMissing) := rfl
theorem rc_10_226_5 : mx_call 10 226 5 = some (2, 2, MX5_put) := rfl
theorem rc_10_233_5 : mx_call 10 233 5 = some (2, 2, MX5_reaches) := rfl
theorem rc_10_244_10 : mx_call 10 244 10 = some (2, 4, MX10_makes) := rfl
theorem rc_10_248_1 : mx_call 10 248 1 = some (2, 0, MX1_agesOfAll) := rfl
theorem rc_10_251_1 : mx_call 10 251 1 = some (2, 0, MX1_thingsInPockets) := rfl
theorem rc_11_45_100 : mx_call 11 45 100 = some (0, 3, MX11_in) := rfl
theorem rc_11_49_100 : mx_call 11 49 100 = some (0, 1, MX11_isThing) := rfl
theorem rc_11_53_11 : mx_call 11 53 11 = some (2, 2, MX11_becomes) := rfl
theorem rc_11_57_11 : mx_call 11 57 11 = some (2, 1, MX11_finds) := rfl
theorem rc_11_61_11 : mx_call 11 61 11 = some (2, 2, MX11_its) := rfl
theorem rc_11_64_11 : mx_call 11 64 11 = some (2, 1, MX11_bestOf) := rfl
theorem rc_11_67_100 : mx_call 11 67 100 = some (0, 2, MX11_but) := rfl
theorem rc_11_70_11 : mx_call 11 70 11 = some (2, 1, MX11_shows) := rfl
theorem rc_11_73_11 : mx_call 11 73 11 = some (2, 1, MX11_worstOf) := rfl
theorem rc_11_76_100 : mx_call 11 76 100 = some (0, 1, MX11_lastOf) := rfl
theorem rc_11_79_100 : mx_call 11 79 100 = some (0, 1, MX11_bits) := rfl
theorem rc_11_82_11 : mx_call 11 82 11 = some (2, 3, MX11_puts) := rfl
theorem rc_11_86_100 : mx_call 11 86 100 = some (0, 1, MX11_isKind) := rfl
theorem rc_11_90_11 : mx_call 11 90 11 = some (2, 4, MX11_adds) := rfl
theorem rc_11_94_11 : mx_call 11 94 11 = some (2, 1, MX11_isOne) := rfl
theorem rc_11_97_11 : mx_call 11 97 11 = some (2, 1, MX11_taken) := rfl
theorem rc_11_100_11 : mx_call 11 100 11 = some (2, 2, MX11_findsAt) := rfl
theorem rc_11_103_11 : mx_call 11 103 11 = some (2, 1, MX11_valueOf) := rfl
theorem rc_11_107_11 : mx_call 11 107 11 = some (2, 2, MX11_isPart) := rfl
theorem rc_11_112_11 : mx_call 11 112 11 = some (2, 2, MX11_has) := rfl
theorem rc_11_116_100 : mx_call 11 116 100 = some (0, 3, MX11_held) := rfl
theorem rc_11_120_11 : mx_call 11 120 11 = some (2, 1, MX11_crosses) := rfl
theorem rc_11_123_11 : mx_call 11 123 11 = some (2, 1, MX11_ages) := rfl
theorem rc_11_127_11 : mx_call 11 127 11 = some (2, 0, MX11_oneYear) := rfl
theorem rc_11_130_11 : mx_call 11 130 11 = some (2, 1, MX11_passes) := rfl
theorem rc_11_133_11 : mx_call 11 133 11 = some (2, 1, MX11_sumOf) := rfl
theorem rc_11_136_11 : mx_call 11 136 11 = some (2, 0, MX11_oldest) := rfl
theorem rc_11_140_11 : mx_call 11 140 11 = some (2, 0, MX11_valueOfAll) := rfl
theorem rc_11_143_11 : mx_call 11 143 11 = some (2, 0, MX11_hadByAny) := rfl
theorem rc_11_146_11 : mx_call 11 146 11 = some (2, 2, MX11_moveAll) := rfl
theorem rc_11_151_11 : mx_call 11 151 11 = some (2, 3, MX11_firstOf) := rfl
theorem rc_11_154_11 : mx_call 11 154 11 = some (2, 4, MX11_valueWith) := rfl
theorem rc_11_169_11 : mx_call 11 169 11 = some (2, 1, MX11_byteAt) := rfl
theorem rc_11_172_100 : mx_call 11 172 100 = some (0, 1, MX11_isLetter) := rfl
theorem rc_11_175_100 : mx_call 11 175 100 = some (0, 1, MX11_isDigit) := rfl
theorem rc_11_196_11 : mx_call 11 196 11 = some (2, 1, MX11_isWord) := rfl
theorem rc_11_214_11 : mx_call 11 214 11 = some (2, 0, MX11_advance) := rfl
theorem rc_11_217_11 : mx_call 11 217 11 = some (2, 2, MX11_wantNumber) := rfl
theorem rc_11_224_11 : mx_call 11 224 11 = some (2, 4, MX11_mayWant) := rfl
theorem rc_11_228_11 : mx_call 11 228 11 = some (2, 0, MX11_mayHave) := rfl
theorem rc_11_233_11 : mx_call 11 233 11 = some (2, 0, MX11_kindHere) := rfl
theorem rc_11_236_11 : mx_call 11 236 11 = some (2, 1, MX11_wantOne) := rfl
theorem rc_11_243_11 : mx_call 11 243 11 = some (2, 0, MX11_wantItem) := rfl
theorem rc_11_246_100 : mx_call 11 246 100 = some (0, 1, MX11_isSheet) := rfl
theorem rc_11_250_100 : mx_call 11 250 100 = some (0, 2, MX11_narrow) := rfl
theorem rc_11_254_11 : mx_call 11 254 11 = some (2, 3, MX11_isPart_) := rfl
theorem rc_11_256_11 : mx_call 11 256 11 = some (2, 1, MX11_badSheet) := rfl
theorem rc_11_261_11 : mx_call 11 261 11 = some (2, 2, MX11_isSo) := rfl
theorem rc_11_267_11 : mx_call 11 267 11 = some (2, 0, MX11_thingsOf) := rfl
theorem rc_12_9_100 : mx_call 12 9 100 = some (4, 0, MX10_init) := rfl
theorem rc_12_12_100 : mx_call 12 12 100 = some (4, 0, MX11_init) := rfl
theorem rc_12_13_10 : mx_call 12 13 10 = some (2, 2, MX10_worth) := rfl
theorem rc_12_17_11 : mx_call 12 17 11 = some (2, 2, MX11_worth) := rfl
theorem rc_12_18_10 : mx_call 12 18 10 = some (2, 1, MX10_worthOf) := rfl
theorem rc_12_22_11 : mx_call 12 22 11 = some (2, 1, MX11_worthOf) := rfl
theorem rc_12_23_10 : mx_call 12 23 10 = some (2, 1, MX10_who) := rfl
theorem rc_12_26_11 : mx_call 12 26 11 = some (2, 1, MX11_who) := rfl
theorem rc_12_27_10 : mx_call 12 27 10 = some (2, 1, MX10_person) := rfl
theorem rc_12_30_11 : mx_call 12 30 11 = some (2, 1, MX11_person) := rfl
theorem rc_12_31_10 : mx_call 12 31 10 = some (2, 2, MX10_of) := rfl
theorem rc_12_34_11 : mx_call 12 34 11 = some (2, 2, MX11_of) := rfl
theorem rc_12_35_10 : mx_call 12 35 10 = some (2, 3, MX10_set) := rfl
theorem rc_12_39_11 : mx_call 12 39 11 = some (2, 3, MX11_set) := rfl
theorem rc_12_40_10 : mx_call 12 40 10 = some (2, 2, MX10_turn) := rfl
theorem rc_12_43_11 : mx_call 12 43 11 = some (2, 2, MX11_turn) := rfl
theorem rc_12_44_10 : mx_call 12 44 10 = some (2, 2, MX10_as) := rfl
theorem rc_12_47_11 : mx_call 12 47 11 = some (2, 2, MX11_as) := rfl
theorem rc_12_48_10 : mx_call 12 48 10 = some (2, 2, MX10_give) := rfl
theorem rc_12_51_11 : mx_call 12 51 11 = some (2, 2, MX11_give) := rfl
theorem rc_12_52_10 : mx_call 12 52 10 = some (2, 3, MX10_hand) := rfl
theorem rc_12_55_11 : mx_call 12 55 11 = some (2, 3, MX11_hand) := rfl
theorem rc_12_56_10 : mx_call 12 56 10 = some (2, 1, MX10_border) := rfl
theorem rc_12_59_11 : mx_call 12 59 11 = some (2, 1, MX11_border) := rfl
theorem rc_12_60_10 : mx_call 12 60 10 = some (2, 1, MX10_years) := rfl
theorem rc_12_63_11 : mx_call 12 63 11 = some (2, 1, MX11_years) := rfl
theorem rc_12_64_10 : mx_call 12 64 10 = some (2, 1, MX10_now) := rfl
theorem rc_12_67_11 : mx_call 12 67 11 = some (2, 1, MX11_now) := rfl
theorem rc_12_68_10 : mx_call 12 68 10 = some (2, 3, MX10_on) := rfl
theorem rc_12_71_11 : mx_call 12 71 11 = some (2, 3, MX11_on) := rfl
theorem rc_12_72_10 : mx_call 12 72 10 = some (2, 2, MX10_gets) := rfl
theorem rc_12_75_11 : mx_call 12 75 11 = some (2, 2, MX11_gets) := rfl
theorem rc_12_76_10 : mx_call 12 76 10 = some (2, 2, MX10_loses) := rfl
theorem rc_12_79_11 : mx_call 12 79 11 = some (2, 2, MX11_loses) := rfl
theorem rc_12_80_10 : mx_call 12 80 10 = some (2, 1, MX10_burns) := rfl
theorem rc_12_83_11 : mx_call 12 83 11 = some (2, 1, MX11_burns) := rfl
theorem rc_12_84_10 : mx_call 12 84 10 = some (2, 2, MX10_cousin) := rfl
theorem rc_12_87_11 : mx_call 12 87 11 = some (2, 2, MX11_cousin) := rfl
theorem rc_12_88_10 : mx_call 12 88 10 = some (2, 2, MX10_kind) := rfl
theorem rc_12_91_11 : mx_call 12 91 11 = some (2, 2, MX11_kind) := rfl
theorem rc_12_92_10 : mx_call 12 92 10 = some (2, 3, MX10_keep) := rfl
theorem rc_12_95_11 : mx_call 12 95 11 = some (2, 3, MX11_keep) := rfl
theorem rc_12_96_10 : mx_call 12 96 10 = some (2, 2, MX10_best) := rfl
theorem rc_12_99_11 : mx_call 12 99 11 = some (2, 2, MX11_best) := rfl
theorem rc_12_100_10 : mx_call 12 100 10 = some (2, 1, MX10_richest) := rfl
theorem rc_12_103_11 : mx_call 12 103 11 = some (2, 1, MX11_richest) := rfl
theorem rc_12_104_10 : mx_call 12 104 10 = some (2, 3, MX10_fewest) := rfl
theorem rc_12_107_11 : mx_call 12 107 11 = some (2, 3, MX11_fewest) := rfl
theorem rc_12_108_10 : mx_call 12 108 10 = some (2, 2, MX10_feed) := rfl
theorem rc_12_111_11 : mx_call 12 111 11 = some (2, 2, MX11_feed) := rfl
theorem rc_12_112_10 : mx_call 12 112 10 = some (2, 0, MX10_wipe) := rfl
theorem rc_12_116_11 : mx_call 12 116 11 = some (2, 0, MX11_wipe) := rfl
theorem rc_12_117_10 : mx_call 12 117 10 = some (2, 0, MX10_family) := rfl
theorem rc_12_120_11 : mx_call 12 120 11 = some (2, 0, MX11_family) := rfl
theorem rc_12_121_10 : mx_call 12 121 10 = some (2, 3, MX10_sheet) := rfl
theorem rc_12_124_11 : mx_call 12 124 11 = some (2, 3, MX11_sheet) := rfl
theorem rc_12_127_10 : mx_call 12 127 10 = some (2, 3, MX10_write) := rfl
theorem rc_12_131_11 : mx_call 12 131 11 = some (2, 3, MX11_write) := rfl
theorem rc_12_132_10 : mx_call 12 132 10 = some (2, 5, MX10_copy) := rfl
theorem rc_12_136_11 : mx_call 12 136 11 = some (2, 5, MX11_copy) := rfl
theorem rc_12_137_10 : mx_call 12 137 10 = some (2, 1, MX10_lays) := rfl
theorem rc_12_140_11 : mx_call 12 140 11 = some (2, 1, MX11_lays) := rfl
theorem rc_12_141_10 : mx_call 12 141 10 = some (2, 2, MX10_book) := rfl
theorem rc_12_144_11 : mx_call 12 144 11 = some (2, 2, MX11_book) := rfl
theorem rc_12_145_10 : mx_call 12 145 10 = some (2, 2, MX10_read) := rfl
theorem rc_12_148_11 : mx_call 12 148 11 = some (2, 2, MX11_read) := rfl
theorem rc_12_149_10 : mx_call 12 149 10 = some (2, 0, MX10_image) := rfl
theorem rc_12_152_11 : mx_call 12 152 11 = some (2, 0, MX11_image) := rfl
theorem rc_12_153_10 : mx_call 12 153 10 = some (2, 0, MX10_undo) := rfl
theorem rc_12_156_11 : mx_call 12 156 11 = some (2, 0, MX11_undo) := rfl
theorem rc_12_157_10 : mx_call 12 157 10 = some (2, 0, MX10_tear) := rfl
theorem rc_12_160_11 : mx_call 12 160 11 = some (2, 0, MX11_tear) := rfl
theorem rc_12_161_10 : mx_call 12 161 10 = some (2, 1, MX10_count) := rfl
theorem rc_12_164_11 : mx_call 12 164 11 = some (2, 1, MX11_count) := rfl
theorem rc_12_165_10 : mx_call 12 165 10 = some (2, 1, MX10_status) := rfl
theorem rc_12_168_11 : mx_call 12 168 11 = some (2, 1, MX11_status) := rfl
theorem rc_20_335_20 : mx_call 20 335 20 = some (2, 0, MJ0_coder_7d493) := rfl
theorem rc_20_492_20 : mx_call 20 492 20 = some (2, 0, MJ0_isLatin1_aae02) := rfl
theorem rc_20_495_100 : mx_call 20 495 100 = some (0, 2, MJ1_charAt_3b067) := rfl
theorem rc_20_1059_100 : mx_call 20 1059 100 = some (0, 3, MJ3_checkIndex_8e157) := rfl
theorem rc_21_9_100 : mx_call 21 9 100 = some (0, 2, MJ0_checkIndex_df160) := rfl
