/-! HOW A CALL BEGINS -/
section
variable {sc : mx_X} {d : Nat} {g : mx_G}
theorem c_X0_init {t : Nat} : call sc d MX0_init [.ref t] g = den sc d MX0_init 0 [some (.ref t)] [] g := rfl
theorem c_X0_taken {t : Nat} {a0 : Int32} {a1 : Nat} : call sc d MX0_taken [.ref t, .int a0, .ref a1] g = den sc d MX0_taken 0 [some (.ref t), some (.int a0), some (.ref a1)] [] g := rfl
theorem c_X0_finds {t : Nat} {a0 : Int32} : call sc d MX0_finds [.ref t, .int a0] g = den sc d MX0_finds 0 [some (.ref t), some (.int a0)] [] g := rfl
theorem c_X1_init {t : Nat} {a0 : Nat} : call sc d MX1_init [.ref t, .ref a0] g = den sc d MX1_init 0 [some (.ref t), some (.ref a0), none] [] g := rfl
theorem c_X1_becomes {t : Nat} {a0 : Nat} : call sc d MX1_becomes [.ref t, .ref a0] g = den sc d MX1_becomes 0 [some (.ref t), some (.ref a0)] [] g := rfl
theorem c_X1_addPerson {t : Nat} {a0 : Int32} : call sc d MX1_addPerson [.ref t, .int a0] g = den sc d MX1_addPerson 0 [some (.ref t), some (.int a0), none] [] g := rfl
theorem c_X1_has {t : Nat} {a0 : Int32} {a1 : Int32} : call sc d MX1_has [.ref t, .int a0, .int a1] g = den sc d MX1_has 0 [some (.ref t), some (.int a0), some (.int a1)] [] g := rfl
theorem c_X1_shownBy {t : Nat} {a0 : Int32} : call sc d MX1_shownBy [.ref t, .int a0] g = den sc d MX1_shownBy 0 [some (.ref t), some (.int a0)] [] g := rfl
theorem c_X1_takenFrom {t : Nat} {a0 : Int32} : call sc d MX1_takenFrom [.ref t, .int a0] g = den sc d MX1_takenFrom 0 [some (.ref t), some (.int a0), none] [] g := rfl
theorem c_X1_foundNextBy {t : Nat} {a0 : Int32} : call sc d MX1_foundNextBy [.ref t, .int a0] g = den sc d MX1_foundNextBy 0 [some (.ref t), some (.int a0)] [] g := rfl
theorem c_X1_holdBorder {t : Nat} {a0 : Int32} : call sc d MX1_holdBorder [.ref t, .int a0] g = den sc d MX1_holdBorder 0 [some (.ref t), some (.int a0), none] [] g := rfl
theorem c_X1_passYears {t : Nat} {a0 : Int32} : call sc d MX1_passYears [.ref t, .int a0] g = den sc d MX1_passYears 0 [some (.ref t), some (.int a0), none, none] [] g := rfl
theorem c_X1_pocketWorth {t : Nat} {a0 : Int32} : call sc d MX1_pocketWorth [.ref t, .int a0] g = den sc d MX1_pocketWorth 0 [some (.ref t), some (.int a0), none, none] [] g := rfl
theorem c_X1_worthOfAllPockets {t : Nat} : call sc d MX1_worthOfAllPockets [.ref t] g = den sc d MX1_worthOfAllPockets 0 [some (.ref t), none, none] [] g := rfl
theorem c_X1_theOldest {t : Nat} : call sc d MX1_theOldest [.ref t] g = den sc d MX1_theOldest 0 [some (.ref t), none, none] [] g := rfl
theorem c_X1_ownedThings {t : Nat} : call sc d MX1_ownedThings [.ref t] g = den sc d MX1_ownedThings 0 [some (.ref t), none, none] [] g := rfl
theorem c_X1_lostByAll {t : Nat} : call sc d MX1_lostByAll [.ref t] g = den sc d MX1_lostByAll 0 [some (.ref t), none, none] [] g := rfl
theorem c_X1_agesOfAll {t : Nat} : call sc d MX1_agesOfAll [.ref t] g = den sc d MX1_agesOfAll 0 [some (.ref t), none, none] [] g := rfl
theorem c_X1_thingsInPockets {t : Nat} : call sc d MX1_thingsInPockets [.ref t] g = den sc d MX1_thingsInPockets 0 [some (.ref t), none, none] [] g := rfl
theorem c_X2_init {t : Nat} : call sc d MX2_init [.ref t] g = den sc d MX2_init 0 [some (.ref t)] [] g := rfl
theorem c_X2_shows {t : Nat} {a0 : Int32} {a1 : Int32} {a2 : Nat} : call sc d MX2_shows [.ref t, .int a0, .int a1, .ref a2] g = den sc d MX2_shows 0 [some (.ref t), some (.int a0), some (.int a1), some (.ref a2), none] [] g := rfl
theorem c_X3_init {t : Nat} : call sc d MX3_init [.ref t] g = den sc d MX3_init 0 [some (.ref t)] [] g := rfl
theorem c_X3_shows {t : Nat} {a0 : Int32} {a1 : Int32} {a2 : Nat} : call sc d MX3_shows [.ref t, .int a0, .int a1, .ref a2] g = den sc d MX3_shows 0 [some (.ref t), some (.int a0), some (.int a1), some (.ref a2)] [] g := rfl
theorem c_X3_taken {t : Nat} {a0 : Int32} {a1 : Nat} : call sc d MX3_taken [.ref t, .int a0, .ref a1] g = den sc d MX3_taken 0 [some (.ref t), some (.int a0), some (.ref a1)] [] g := rfl
theorem c_X3_finds {t : Nat} {a0 : Int32} : call sc d MX3_finds [.ref t, .int a0] g = den sc d MX3_finds 0 [some (.ref t), some (.int a0)] [] g := rfl
theorem c_X4_init {t : Nat} : call sc d MX4_init [.ref t] g = den sc d MX4_init 0 [some (.ref t)] [] g := rfl
theorem c_X4_taken {t : Nat} {a0 : Int32} {a1 : Nat} : call sc d MX4_taken [.ref t, .int a0, .ref a1] g = den sc d MX4_taken 0 [some (.ref t), some (.int a0), some (.ref a1)] [] g := rfl
theorem c_X4_finds {t : Nat} {a0 : Int32} : call sc d MX4_finds [.ref t, .int a0] g = den sc d MX4_finds 0 [some (.ref t), some (.int a0)] [] g := rfl
theorem c_X5_init {t : Nat} : call sc d MX5_init [.ref t] g = den sc d MX5_init 0 [some (.ref t)] [] g := rfl
theorem c_X5_begin {t : Nat} {a0 : Int32} {a1 : Int32} : call sc d MX5_begin [.ref t, .int a0, .int a1] g = den sc d MX5_begin 0 [some (.ref t), some (.int a0), some (.int a1)] [] g := rfl
theorem c_X5_isMissing {t : Nat} : call sc d MX5_isMissing [.ref t] g = den sc d MX5_isMissing 0 [some (.ref t)] [] g := rfl
theorem c_X5_put {t : Nat} {a0 : Int32} {a1 : Int64} : call sc d MX5_put [.ref t, .int a0, .long a1] g = den sc d MX5_put 0 [some (.ref t), some (.int a0), some (.long a1), none] [] g := rfl
theorem c_X5_reaches {t : Nat} {a0 : Int32} {a1 : Int32} : call sc d MX5_reaches [.ref t, .int a0, .int a1] g = den sc d MX5_reaches 0 [some (.ref t), some (.int a0), some (.int a1)] [] g := rfl
theorem c_X6_init {t : Nat} : call sc d MX6_init [.ref t] g = den sc d MX6_init 0 [some (.ref t)] [] g := rfl
theorem c_X6_shows {t : Nat} {a0 : Int32} {a1 : Int32} {a2 : Nat} : call sc d MX6_shows [.ref t, .int a0, .int a1, .ref a2] g = den sc d MX6_shows 0 [some (.ref t), some (.int a0), some (.int a1), some (.ref a2), none] [] g := rfl
theorem c_X7_init {t : Nat} : call sc d MX7_init [.ref t] g = den sc d MX7_init 0 [some (.ref t)] [] g := rfl
theorem c_X7_append {t : Nat} {a0 : Int32} : call sc d MX7_append [.ref t, .int a0] g = den sc d MX7_append 0 [some (.ref t), some (.int a0)] [] g := rfl
theorem c_X8_init {t : Nat} {a0 : Nat} {a1 : Nat} : call sc d MX8_init [.ref t, .ref a0, .ref a1] g = den sc d MX8_init 0 [some (.ref t), some (.ref a0), some (.ref a1)] [] g := rfl
theorem c_X8_readText {t : Nat} : call sc d MX8_readText [.ref t] g = den sc d MX8_readText 0 [some (.ref t), none] [] g := rfl
theorem c_X8_readItem {t : Nat} : call sc d MX8_readItem [.ref t] g = den sc d MX8_readItem 0 [some (.ref t), none] [] g := rfl
theorem c_X8_readPerson {t : Nat} {a0 : Int32} : call sc d MX8_readPerson [.ref t, .int a0] g = den sc d MX8_readPerson 0 [some (.ref t), some (.int a0), none] [] g := rfl
theorem c_X8_readThings {t : Nat} {a0 : Int32} : call sc d MX8_readThings [.ref t, .int a0] g = den sc d MX8_readThings 0 [some (.ref t), some (.int a0), none] [] g := rfl
theorem c_X8_readWorth {t : Nat} : call sc d MX8_readWorth [.ref t] g = den sc d MX8_readWorth 0 [some (.ref t), none] [] g := rfl
theorem c_X8_readBurned {t : Nat} : call sc d MX8_readBurned [.ref t] g = den sc d MX8_readBurned 0 [some (.ref t)] [] g := rfl
theorem c_X8_isNumber {t : Nat} {a0 : Int32} : call sc d MX8_isNumber [.ref t, .int a0] g = den sc d MX8_isNumber 0 [some (.ref t), some (.int a0)] [] g := rfl
theorem c_X8_isWord {t : Nat} {a0 : Nat} : call sc d MX8_isWord [.ref t, .ref a0] g = den sc d MX8_isWord 0 [some (.ref t), some (.ref a0), none] [] g := rfl
theorem c_X8_kindNamed {t : Nat} : call sc d MX8_kindNamed [.ref t] g = den sc d MX8_kindNamed 0 [some (.ref t), none] [] g := rfl
theorem c_X8_nameOfKind {a0 : Int32} : call sc d MX8_nameOfKind [.int a0] g = den sc d MX8_nameOfKind 0 [some (.int a0)] [] g := rfl
theorem c_X8_next {t : Nat} : call sc d MX8_next [.ref t] g = den sc d MX8_next 0 [some (.ref t)] [] g := rfl
theorem c_X8_passWord {t : Nat} : call sc d MX8_passWord [.ref t] g = den sc d MX8_passWord 0 [some (.ref t)] [] g := rfl
theorem c_X8_passNumber {t : Nat} : call sc d MX8_passNumber [.ref t] g = den sc d MX8_passNumber 0 [some (.ref t)] [] g := rfl
theorem c_X8_isLetter {t : Nat} {a0 : Int32} : call sc d MX8_isLetter [.ref t, .int a0] g = den sc d MX8_isLetter 0 [some (.ref t), some (.int a0)] [] g := rfl
theorem c_X8_isDigit {t : Nat} {a0 : Int32} : call sc d MX8_isDigit [.ref t, .int a0] g = den sc d MX8_isDigit 0 [some (.ref t), some (.int a0)] [] g := rfl
theorem c_X9_init {t : Nat} : call sc d MX9_init [.ref t] g = den sc d MX9_init 0 [some (.ref t)] [] g := rfl
theorem c_X9_shows {t : Nat} {a0 : Int32} {a1 : Int32} {a2 : Nat} : call sc d MX9_shows [.ref t, .int a0, .int a1, .ref a2] g = den sc d MX9_shows 0 [some (.ref t), some (.int a0), some (.int a1), some (.ref a2)] [] g := rfl
theorem c_X9_taken {t : Nat} {a0 : Int32} {a1 : Nat} : call sc d MX9_taken [.ref t, .int a0, .ref a1] g = den sc d MX9_taken 0 [some (.ref t), some (.int a0), some (.ref a1), none, none] [] g := rfl
theorem c_X9_finds {t : Nat} {a0 : Int32} : call sc d MX9_finds [.ref t, .int a0] g = den sc d MX9_finds 0 [some (.ref t), some (.int a0)] [] g := rfl
theorem c_X10_init {t : Nat} : call sc d MX10_init [.ref t] g = den sc d MX10_init 0 [some (.ref t), none, none] [] g := rfl
theorem c_X10_worth {t : Nat} {a0 : Int32} {a1 : Int32} : call sc d MX10_worth [.ref t, .int a0, .int a1] g = den sc d MX10_worth 0 [some (.ref t), some (.int a0), some (.int a1), none] [] g := rfl
theorem c_X10_worthOf {t : Nat} {a0 : Int32} : call sc d MX10_worthOf [.ref t, .int a0] g = den sc d MX10_worthOf 0 [some (.ref t), some (.int a0)] [] g := rfl
theorem c_X10_who {t : Nat} {a0 : Int32} : call sc d MX10_who [.ref t, .int a0] g = den sc d MX10_who 0 [some (.ref t), some (.int a0), none, none] [] g := rfl
theorem c_X10_person {t : Nat} {a0 : Int32} : call sc d MX10_person [.ref t, .int a0] g = den sc d MX10_person 0 [some (.ref t), some (.int a0)] [] g := rfl
theorem c_X10_of {t : Nat} {a0 : Int32} {a1 : Int32} : call sc d MX10_of [.ref t, .int a0, .int a1] g = den sc d MX10_of 0 [some (.ref t), some (.int a0), some (.int a1)] [] g := rfl
theorem c_X10_set {t : Nat} {a0 : Int32} {a1 : Int32} {a2 : Int32} : call sc d MX10_set [.ref t, .int a0, .int a1, .int a2] g = den sc d MX10_set 0 [some (.ref t), some (.int a0), some (.int a1), some (.int a2)] [] g := rfl
theorem c_X10_turn {t : Nat} {a0 : Int32} {a1 : Int32} : call sc d MX10_turn [.ref t, .int a0, .int a1] g = den sc d MX10_turn 0 [some (.ref t), some (.int a0), some (.int a1)] [] g := rfl
theorem c_X10_as {t : Nat} {a0 : Int32} {a1 : Int32} : call sc d MX10_as [.ref t, .int a0, .int a1] g = den sc d MX10_as 0 [some (.ref t), some (.int a0), some (.int a1)] [] g := rfl
theorem c_X10_give {t : Nat} {a0 : Int32} {a1 : Int32} : call sc d MX10_give [.ref t, .int a0, .int a1] g = den sc d MX10_give 0 [some (.ref t), some (.int a0), some (.int a1)] [] g := rfl
theorem c_X10_hand {t : Nat} {a0 : Int32} {a1 : Int32} {a2 : Int32} : call sc d MX10_hand [.ref t, .int a0, .int a1, .int a2] g = den sc d MX10_hand 0 [some (.ref t), some (.int a0), some (.int a1), some (.int a2)] [] g := rfl
theorem c_X10_border {t : Nat} {a0 : Int32} : call sc d MX10_border [.ref t, .int a0] g = den sc d MX10_border 0 [some (.ref t), some (.int a0)] [] g := rfl
theorem c_X10_years {t : Nat} {a0 : Int32} : call sc d MX10_years [.ref t, .int a0] g = den sc d MX10_years 0 [some (.ref t), some (.int a0)] [] g := rfl
theorem c_X10_now {t : Nat} {a0 : Int32} : call sc d MX10_now [.ref t, .int a0] g = den sc d MX10_now 0 [some (.ref t), some (.int a0)] [] g := rfl
theorem c_X10_on {t : Nat} {a0 : Int32} {a1 : Int32} {a2 : Int32} : call sc d MX10_on [.ref t, .int a0, .int a1, .int a2] g = den sc d MX10_on 0 [some (.ref t), some (.int a0), some (.int a1), some (.int a2)] [] g := rfl
theorem c_X10_gets {t : Nat} {a0 : Int32} {a1 : Int32} : call sc d MX10_gets [.ref t, .int a0, .int a1] g = den sc d MX10_gets 0 [some (.ref t), some (.int a0), some (.int a1)] [] g := rfl
theorem c_X10_loses {t : Nat} {a0 : Int32} {a1 : Int32} : call sc d MX10_loses [.ref t, .int a0, .int a1] g = den sc d MX10_loses 0 [some (.ref t), some (.int a0), some (.int a1)] [] g := rfl
theorem c_X10_burns {t : Nat} {a0 : Int32} : call sc d MX10_burns [.ref t, .int a0] g = den sc d MX10_burns 0 [some (.ref t), some (.int a0), none] [] g := rfl
theorem c_X10_cousin {t : Nat} {a0 : Int32} {a1 : Int32} : call sc d MX10_cousin [.ref t, .int a0, .int a1] g = den sc d MX10_cousin 0 [some (.ref t), some (.int a0), some (.int a1), none, none, none, none] [] g := rfl
theorem c_X10_kind {t : Nat} {a0 : Int32} {a1 : Int32} : call sc d MX10_kind [.ref t, .int a0, .int a1] g = den sc d MX10_kind 0 [some (.ref t), some (.int a0), some (.int a1), none, none, none, none] [] g := rfl
theorem c_X10_keep {t : Nat} {a0 : Int32} {a1 : Int32} {a2 : Int32} : call sc d MX10_keep [.ref t, .int a0, .int a1, .int a2] g = den sc d MX10_keep 0 [some (.ref t), some (.int a0), some (.int a1), some (.int a2), none] [] g := rfl
theorem c_X10_best {t : Nat} {a0 : Int32} {a1 : Int32} : call sc d MX10_best [.ref t, .int a0, .int a1] g = den sc d MX10_best 0 [some (.ref t), some (.int a0), some (.int a1), none, none, none, none] [] g := rfl
theorem c_X10_richest {t : Nat} {a0 : Int32} : call sc d MX10_richest [.ref t, .int a0] g = den sc d MX10_richest 0 [some (.ref t), some (.int a0), none, none, none, none] [] g := rfl
theorem c_X10_fewest {t : Nat} {a0 : Int32} {a1 : Int32} {a2 : Int32} : call sc d MX10_fewest [.ref t, .int a0, .int a1, .int a2] g = den sc d MX10_fewest 0 [some (.ref t), some (.int a0), some (.int a1), some (.int a2), none, none, none, none, none, none, none] [] g := rfl
theorem c_X10_feed {t : Nat} {a0 : Int32} {a1 : Int32} : call sc d MX10_feed [.ref t, .int a0, .int a1] g = den sc d MX10_feed 0 [some (.ref t), some (.int a0), some (.int a1), none] [] g := rfl
theorem c_X10_wipe {t : Nat} : call sc d MX10_wipe [.ref t] g = den sc d MX10_wipe 0 [some (.ref t), none] [] g := rfl
theorem c_X10_family {t : Nat} : call sc d MX10_family [.ref t] g = den sc d MX10_family 0 [some (.ref t), none] [] g := rfl
theorem c_X10_sheet {t : Nat} {a0 : Int32} {a1 : Int32} {a2 : Int32} : call sc d MX10_sheet [.ref t, .int a0, .int a1, .int a2] g = den sc d MX10_sheet 0 [some (.ref t), some (.int a0), some (.int a1), some (.int a2)] [] g := rfl
theorem c_X10_write {t : Nat} {a0 : Int32} {a1 : Int32} {a2 : Int64} : call sc d MX10_write [.ref t, .int a0, .int a1, .long a2] g = den sc d MX10_write 0 [some (.ref t), some (.int a0), some (.int a1), some (.long a2), none, none, none] [] g := rfl
theorem c_X10_copy {t : Nat} {a0 : Int32} {a1 : Int32} {a2 : Int32} {a3 : Int32} {a4 : Int32} : call sc d MX10_copy [.ref t, .int a0, .int a1, .int a2, .int a3, .int a4] g = den sc d MX10_copy 0 [some (.ref t), some (.int a0), some (.int a1), some (.int a2), some (.int a3), some (.int a4)] [] g := rfl
theorem c_X10_lays {t : Nat} {a0 : Int32} : call sc d MX10_lays [.ref t, .int a0] g = den sc d MX10_lays 0 [some (.ref t), some (.int a0), none, none, none, none] [] g := rfl
theorem c_X10_book {t : Nat} {a0 : Int32} {a1 : Int32} : call sc d MX10_book [.ref t, .int a0, .int a1] g = den sc d MX10_book 0 [some (.ref t), some (.int a0), some (.int a1), none] [] g := rfl
theorem c_X10_read {t : Nat} {a0 : Int32} {a1 : Int32} : call sc d MX10_read [.ref t, .int a0, .int a1] g = den sc d MX10_read 0 [some (.ref t), some (.int a0), some (.int a1), none, none, none] [] g := rfl
theorem c_X10_image {t : Nat} : call sc d MX10_image [.ref t] g = den sc d MX10_image 0 [some (.ref t)] [] g := rfl
theorem c_X10_undo {t : Nat} : call sc d MX10_undo [.ref t] g = den sc d MX10_undo 0 [some (.ref t)] [] g := rfl
theorem c_X10_tear {t : Nat} : call sc d MX10_tear [.ref t] g = den sc d MX10_tear 0 [some (.ref t), none] [] g := rfl
theorem c_X10_count {t : Nat} {a0 : Int32} : call sc d MX10_count [.ref t, .int a0] g = den sc d MX10_count 0 [some (.ref t), some (.int a0)] [] g := rfl
theorem c_X10_status {t : Nat} {a0 : Int32} : call sc d MX10_status [.ref t, .int a0] g = den sc d MX10_status 0 [some (.ref t), some (.int a0), none, none] [] g := rfl
theorem c_X10_found {t : Nat} {a0 : Int32} : call sc d MX10_found [.ref t, .int a0] g = den sc d MX10_found 0 [some (.ref t), some (.int a0)] [] g := rfl
theorem c_X10_isPerson {t : Nat} {a0 : Int32} : call sc d MX10_isPerson [.ref t, .int a0] g = den sc d MX10_isPerson 0 [some (.ref t), some (.int a0)] [] g := rfl
theorem c_X10_replace {t : Nat} {a0 : Nat} {a1 : Int32} {a2 : Int32} {a3 : Int32} {a4 : Int32} : call sc d MX10_replace [.ref t, .ref a0, .int a1, .int a2, .int a3, .int a4] g = den sc d MX10_replace 0 [some (.ref t), some (.ref a0), some (.int a1), some (.int a2), some (.int a3), some (.int a4), none] [] g := rfl
theorem c_X10_firstYear {t : Nat} {a0 : Int32} {a1 : Int32} {a2 : Int32} : call sc d MX10_firstYear [.ref t, .int a0, .int a1, .int a2] g = den sc d MX10_firstYear 0 [some (.ref t), some (.int a0), some (.int a1), some (.int a2), none] [] g := rfl
theorem c_X10_staysWithout {t : Nat} {a0 : Int32} {a1 : Int32} {a2 : Int32} {a3 : Int32} : call sc d MX10_staysWithout [.ref t, .int a0, .int a1, .int a2, .int a3] g = den sc d MX10_staysWithout 0 [some (.ref t), some (.int a0), some (.int a1), some (.int a2), some (.int a3)] [] g := rfl
theorem c_X10_makes {t : Nat} {a0 : Nat} {a1 : Int32} {a2 : Int32} {a3 : Int32} : call sc d MX10_makes [.ref t, .ref a0, .int a1, .int a2, .int a3] g = den sc d MX10_makes 0 [some (.ref t), some (.ref a0), some (.int a1), some (.int a2), some (.int a3), none] [] g := rfl
theorem c_X10_isWithin {a0 : Int32} {a1 : Int32} {a2 : Int32} : call sc d MX10_isWithin [.int a0, .int a1, .int a2] g = den sc d MX10_isWithin 0 [some (.int a0), some (.int a1), some (.int a2)] [] g := rfl
theorem c_X10_isThing {a0 : Int32} : call sc d MX10_isThing [.int a0] g = den sc d MX10_isThing 0 [some (.int a0)] [] g := rfl
theorem c_X10_isWorth {a0 : Int32} : call sc d MX10_isWorth [.int a0] g = den sc d MX10_isWorth 0 [some (.int a0)] [] g := rfl
theorem c_X10_isKind {a0 : Int32} : call sc d MX10_isKind [.int a0] g = den sc d MX10_isKind 0 [some (.int a0)] [] g := rfl
theorem c_X10_isSheet {a0 : Int32} : call sc d MX10_isSheet [.int a0] g = den sc d MX10_isSheet 0 [some (.int a0)] [] g := rfl
theorem c_X10_isUnder {a0 : Int32} {a1 : Int32} : call sc d MX10_isUnder [.int a0, .int a1] g = den sc d MX10_isUnder 0 [some (.int a0), some (.int a1), none, none] [] g := rfl
theorem c_X10_setOf {a0 : Int32} : call sc d MX10_setOf [.int a0] g = den sc d MX10_setOf 0 [some (.int a0)] [] g := rfl
theorem c_X10_contains {a0 : Int32} {a1 : Int32} : call sc d MX10_contains [.int a0, .int a1] g = den sc d MX10_contains 0 [some (.int a0), some (.int a1)] [] g := rfl
theorem c_X10_bestIn {a0 : Int32} {a1 : Nat} : call sc d MX10_bestIn [.int a0, .ref a1] g = den sc d MX10_bestIn 0 [some (.int a0), some (.ref a1), none, none] [] g := rfl
theorem c_X10_worstIn {a0 : Int32} {a1 : Nat} : call sc d MX10_worstIn [.int a0, .ref a1] g = den sc d MX10_worstIn 0 [some (.int a0), some (.ref a1), none, none] [] g := rfl
theorem c_X10_greatestIn {a0 : Int32} : call sc d MX10_greatestIn [.int a0] g = den sc d MX10_greatestIn 0 [some (.int a0), none] [] g := rfl
theorem c_X11_init {t : Nat} : call sc d MX11_init [.ref t] g = den sc d MX11_init 0 [some (.ref t), none] [] g := rfl
theorem c_X11_in {a0 : Int32} {a1 : Int32} {a2 : Int32} : call sc d MX11_in [.int a0, .int a1, .int a2] g = den sc d MX11_in 0 [some (.int a0), some (.int a1), some (.int a2)] [] g := rfl
theorem c_X11_finds {t : Nat} {a0 : Int32} : call sc d MX11_finds [.ref t, .int a0] g = den sc d MX11_finds 0 [some (.ref t), some (.int a0)] [] g := rfl
theorem c_X11_held {a0 : Int32} {a1 : Int32} {a2 : Int32} : call sc d MX11_held [.int a0, .int a1, .int a2] g = den sc d MX11_held 0 [some (.int a0), some (.int a1), some (.int a2)] [] g := rfl
theorem c_X11_its {t : Nat} {a0 : Int32} {a1 : Int32} : call sc d MX11_its [.ref t, .int a0, .int a1] g = den sc d MX11_its 0 [some (.ref t), some (.int a0), some (.int a1)] [] g := rfl
theorem c_X11_puts {t : Nat} {a0 : Int32} {a1 : Int32} {a2 : Int32} : call sc d MX11_puts [.ref t, .int a0, .int a1, .int a2] g = den sc d MX11_puts 0 [some (.ref t), some (.int a0), some (.int a1), some (.int a2)] [] g := rfl
theorem c_X11_becomes {t : Nat} {a0 : Int32} {a1 : Int32} : call sc d MX11_becomes [.ref t, .int a0, .int a1] g = den sc d MX11_becomes 0 [some (.ref t), some (.int a0), some (.int a1), none] [] g := rfl
theorem c_X11_isOne {t : Nat} {a0 : Int32} : call sc d MX11_isOne [.ref t, .int a0] g = den sc d MX11_isOne 0 [some (.ref t), some (.int a0)] [] g := rfl
theorem c_X11_isKind {a0 : Int32} : call sc d MX11_isKind [.int a0] g = den sc d MX11_isKind 0 [some (.int a0)] [] g := rfl
theorem c_X11_isThing {a0 : Int32} : call sc d MX11_isThing [.int a0] g = den sc d MX11_isThing 0 [some (.int a0)] [] g := rfl
theorem c_X11_bits {a0 : Int32} : call sc d MX11_bits [.int a0] g = den sc d MX11_bits 0 [some (.int a0), none, none] [] g := rfl
theorem c_X11_bestOf {t : Nat} {a0 : Int32} : call sc d MX11_bestOf [.ref t, .int a0] g = den sc d MX11_bestOf 0 [some (.ref t), some (.int a0), none, none] [] g := rfl
theorem c_X11_worstOf {t : Nat} {a0 : Int32} : call sc d MX11_worstOf [.ref t, .int a0] g = den sc d MX11_worstOf 0 [some (.ref t), some (.int a0), none, none] [] g := rfl
theorem c_X11_lastOf {a0 : Int32} : call sc d MX11_lastOf [.int a0] g = den sc d MX11_lastOf 0 [some (.int a0), none] [] g := rfl
theorem c_X11_but {a0 : Int32} {a1 : Int32} : call sc d MX11_but [.int a0, .int a1] g = den sc d MX11_but 0 [some (.int a0), some (.int a1)] [] g := rfl
theorem c_X11_valueOf {t : Nat} {a0 : Int32} : call sc d MX11_valueOf [.ref t, .int a0] g = den sc d MX11_valueOf 0 [some (.ref t), some (.int a0), none, none] [] g := rfl
theorem c_X11_worth {t : Nat} {a0 : Int32} {a1 : Int32} : call sc d MX11_worth [.ref t, .int a0, .int a1] g = den sc d MX11_worth 0 [some (.ref t), some (.int a0), some (.int a1)] [] g := rfl
theorem c_X11_worthOf {t : Nat} {a0 : Int32} : call sc d MX11_worthOf [.ref t, .int a0] g = den sc d MX11_worthOf 0 [some (.ref t), some (.int a0)] [] g := rfl
theorem c_X11_who {t : Nat} {a0 : Int32} : call sc d MX11_who [.ref t, .int a0] g = den sc d MX11_who 0 [some (.ref t), some (.int a0), none, none] [] g := rfl
theorem c_X11_shows {t : Nat} {a0 : Int32} : call sc d MX11_shows [.ref t, .int a0] g = den sc d MX11_shows 0 [some (.ref t), some (.int a0), none, none] [] g := rfl
theorem c_X11_taken {t : Nat} {a0 : Int32} : call sc d MX11_taken [.ref t, .int a0] g = den sc d MX11_taken 0 [some (.ref t), some (.int a0), none, none] [] g := rfl
theorem c_X11_findsAt {t : Nat} {a0 : Int32} {a1 : Int32} : call sc d MX11_findsAt [.ref t, .int a0, .int a1] g = den sc d MX11_findsAt 0 [some (.ref t), some (.int a0), some (.int a1), none] [] g := rfl
theorem c_X11_adds {t : Nat} {a0 : Int32} {a1 : Int32} {a2 : Int32} {a3 : Int32} : call sc d MX11_adds [.ref t, .int a0, .int a1, .int a2, .int a3] g = den sc d MX11_adds 0 [some (.ref t), some (.int a0), some (.int a1), some (.int a2), some (.int a3), none] [] g := rfl
theorem c_X11_person {t : Nat} {a0 : Int32} : call sc d MX11_person [.ref t, .int a0] g = den sc d MX11_person 0 [some (.ref t), some (.int a0)] [] g := rfl
theorem c_X11_of {t : Nat} {a0 : Int32} {a1 : Int32} : call sc d MX11_of [.ref t, .int a0, .int a1] g = den sc d MX11_of 0 [some (.ref t), some (.int a0), some (.int a1)] [] g := rfl
theorem c_X11_isPart {t : Nat} {a0 : Int32} {a1 : Int32} : call sc d MX11_isPart [.ref t, .int a0, .int a1] g = den sc d MX11_isPart 0 [some (.ref t), some (.int a0), some (.int a1)] [] g := rfl
theorem c_X11_set {t : Nat} {a0 : Int32} {a1 : Int32} {a2 : Int32} : call sc d MX11_set [.ref t, .int a0, .int a1, .int a2] g = den sc d MX11_set 0 [some (.ref t), some (.int a0), some (.int a1), some (.int a2)] [] g := rfl
theorem c_X11_turn {t : Nat} {a0 : Int32} {a1 : Int32} : call sc d MX11_turn [.ref t, .int a0, .int a1] g = den sc d MX11_turn 0 [some (.ref t), some (.int a0), some (.int a1)] [] g := rfl
theorem c_X11_as {t : Nat} {a0 : Int32} {a1 : Int32} : call sc d MX11_as [.ref t, .int a0, .int a1] g = den sc d MX11_as 0 [some (.ref t), some (.int a0), some (.int a1), none, none] [] g := rfl
theorem c_X11_has {t : Nat} {a0 : Int32} {a1 : Int32} : call sc d MX11_has [.ref t, .int a0, .int a1] g = den sc d MX11_has 0 [some (.ref t), some (.int a0), some (.int a1)] [] g := rfl
theorem c_X11_give {t : Nat} {a0 : Int32} {a1 : Int32} : call sc d MX11_give [.ref t, .int a0, .int a1] g = den sc d MX11_give 0 [some (.ref t), some (.int a0), some (.int a1), none] [] g := rfl
theorem c_X11_hand {t : Nat} {a0 : Int32} {a1 : Int32} {a2 : Int32} : call sc d MX11_hand [.ref t, .int a0, .int a1, .int a2] g = den sc d MX11_hand 0 [some (.ref t), some (.int a0), some (.int a1), some (.int a2)] [] g := rfl
theorem c_X11_crosses {t : Nat} {a0 : Int32} : call sc d MX11_crosses [.ref t, .int a0] g = den sc d MX11_crosses 0 [some (.ref t), some (.int a0), none, none] [] g := rfl
theorem c_X11_border {t : Nat} {a0 : Int32} : call sc d MX11_border [.ref t, .int a0] g = den sc d MX11_border 0 [some (.ref t), some (.int a0)] [] g := rfl
theorem c_X11_ages {t : Nat} {a0 : Int32} : call sc d MX11_ages [.ref t, .int a0] g = den sc d MX11_ages 0 [some (.ref t), some (.int a0), none, none] [] g := rfl
theorem c_X11_oneYear {t : Nat} : call sc d MX11_oneYear [.ref t] g = den sc d MX11_oneYear 0 [some (.ref t), none] [] g := rfl
theorem c_X11_passes {t : Nat} {a0 : Int32} : call sc d MX11_passes [.ref t, .int a0] g = den sc d MX11_passes 0 [some (.ref t), some (.int a0), none] [] g := rfl
theorem c_X11_sumOf {t : Nat} {a0 : Int32} : call sc d MX11_sumOf [.ref t, .int a0] g = den sc d MX11_sumOf 0 [some (.ref t), some (.int a0), none, none] [] g := rfl
theorem c_X11_years {t : Nat} {a0 : Int32} : call sc d MX11_years [.ref t, .int a0] g = den sc d MX11_years 0 [some (.ref t), some (.int a0)] [] g := rfl
theorem c_X11_oldest {t : Nat} : call sc d MX11_oldest [.ref t] g = den sc d MX11_oldest 0 [some (.ref t), none, none] [] g := rfl
theorem c_X11_valueOfAll {t : Nat} : call sc d MX11_valueOfAll [.ref t] g = den sc d MX11_valueOfAll 0 [some (.ref t), none, none] [] g := rfl
theorem c_X11_hadByAny {t : Nat} : call sc d MX11_hadByAny [.ref t] g = den sc d MX11_hadByAny 0 [some (.ref t), none, none] [] g := rfl
theorem c_X11_now {t : Nat} {a0 : Int32} : call sc d MX11_now [.ref t, .int a0] g = den sc d MX11_now 0 [some (.ref t), some (.int a0)] [] g := rfl
theorem c_X11_on {t : Nat} {a0 : Int32} {a1 : Int32} {a2 : Int32} : call sc d MX11_on [.ref t, .int a0, .int a1, .int a2] g = den sc d MX11_on 0 [some (.ref t), some (.int a0), some (.int a1), some (.int a2), none] [] g := rfl
theorem c_X11_firstOf {t : Nat} {a0 : Int32} {a1 : Int32} {a2 : Int32} : call sc d MX11_firstOf [.ref t, .int a0, .int a1, .int a2] g = den sc d MX11_firstOf 0 [some (.ref t), some (.int a0), some (.int a1), some (.int a2), none] [] g := rfl
theorem c_X11_gets {t : Nat} {a0 : Int32} {a1 : Int32} : call sc d MX11_gets [.ref t, .int a0, .int a1] g = den sc d MX11_gets 0 [some (.ref t), some (.int a0), some (.int a1)] [] g := rfl
theorem c_X11_loses {t : Nat} {a0 : Int32} {a1 : Int32} : call sc d MX11_loses [.ref t, .int a0, .int a1] g = den sc d MX11_loses 0 [some (.ref t), some (.int a0), some (.int a1)] [] g := rfl
theorem c_X11_burns {t : Nat} {a0 : Int32} : call sc d MX11_burns [.ref t, .int a0] g = den sc d MX11_burns 0 [some (.ref t), some (.int a0)] [] g := rfl
theorem c_X11_valueWith {t : Nat} {a0 : Int32} {a1 : Int32} {a2 : Int32} {a3 : Int32} : call sc d MX11_valueWith [.ref t, .int a0, .int a1, .int a2, .int a3] g = den sc d MX11_valueWith 0 [some (.ref t), some (.int a0), some (.int a1), some (.int a2), some (.int a3), none] [] g := rfl
theorem c_X11_cousin {t : Nat} {a0 : Int32} {a1 : Int32} : call sc d MX11_cousin [.ref t, .int a0, .int a1] g = den sc d MX11_cousin 0 [some (.ref t), some (.int a0), some (.int a1), none, none, none, none] [] g := rfl
theorem c_X11_kind {t : Nat} {a0 : Int32} {a1 : Int32} : call sc d MX11_kind [.ref t, .int a0, .int a1] g = den sc d MX11_kind 0 [some (.ref t), some (.int a0), some (.int a1), none, none, none, none] [] g := rfl
theorem c_X11_keep {t : Nat} {a0 : Int32} {a1 : Int32} {a2 : Int32} : call sc d MX11_keep [.ref t, .int a0, .int a1, .int a2] g = den sc d MX11_keep 0 [some (.ref t), some (.int a0), some (.int a1), some (.int a2), none, none] [] g := rfl
theorem c_X11_best {t : Nat} {a0 : Int32} {a1 : Int32} : call sc d MX11_best [.ref t, .int a0, .int a1] g = den sc d MX11_best 0 [some (.ref t), some (.int a0), some (.int a1), none, none, none, none] [] g := rfl
theorem c_X11_richest {t : Nat} {a0 : Int32} : call sc d MX11_richest [.ref t, .int a0] g = den sc d MX11_richest 0 [some (.ref t), some (.int a0), none, none] [] g := rfl
theorem c_X11_fewest {t : Nat} {a0 : Int32} {a1 : Int32} {a2 : Int32} : call sc d MX11_fewest [.ref t, .int a0, .int a1, .int a2] g = den sc d MX11_fewest 0 [some (.ref t), some (.int a0), some (.int a1), some (.int a2), none, none, none] [] g := rfl
theorem c_X11_feed {t : Nat} {a0 : Int32} {a1 : Int32} : call sc d MX11_feed [.ref t, .int a0, .int a1] g = den sc d MX11_feed 0 [some (.ref t), some (.int a0), some (.int a1), none] [] g := rfl
theorem c_X11_wipe {t : Nat} : call sc d MX11_wipe [.ref t] g = den sc d MX11_wipe 0 [some (.ref t), none] [] g := rfl
theorem c_X11_byteAt {t : Nat} {a0 : Int32} : call sc d MX11_byteAt [.ref t, .int a0] g = den sc d MX11_byteAt 0 [some (.ref t), some (.int a0)] [] g := rfl
theorem c_X11_isLetter {a0 : Int32} : call sc d MX11_isLetter [.int a0] g = den sc d MX11_isLetter 0 [some (.int a0)] [] g := rfl
theorem c_X11_isDigit {a0 : Int32} : call sc d MX11_isDigit [.int a0] g = den sc d MX11_isDigit 0 [some (.int a0)] [] g := rfl
theorem c_X11_advance {t : Nat} : call sc d MX11_advance [.ref t] g = den sc d MX11_advance 0 [some (.ref t), none] [] g := rfl
theorem c_X11_isWord {t : Nat} {a0 : Int64} : call sc d MX11_isWord [.ref t, .long a0] g = den sc d MX11_isWord 0 [some (.ref t), some (.long a0), none] [] g := rfl
theorem c_X11_kindHere {t : Nat} : call sc d MX11_kindHere [.ref t] g = den sc d MX11_kindHere 0 [some (.ref t)] [] g := rfl
theorem c_X11_wantNumber {t : Nat} {a0 : Int32} {a1 : Int32} : call sc d MX11_wantNumber [.ref t, .int a0, .int a1] g = den sc d MX11_wantNumber 0 [some (.ref t), some (.int a0), some (.int a1), none] [] g := rfl
theorem c_X11_mayWant {t : Nat} {a0 : Int64} {a1 : Int32} {a2 : Int32} {a3 : Int32} : call sc d MX11_mayWant [.ref t, .long a0, .int a1, .int a2, .int a3] g = den sc d MX11_mayWant 0 [some (.ref t), some (.long a0), none, some (.int a1), some (.int a2), some (.int a3)] [] g := rfl
theorem c_X11_mayHave {t : Nat} : call sc d MX11_mayHave [.ref t] g = den sc d MX11_mayHave 0 [some (.ref t), none, none, none] [] g := rfl
theorem c_X11_wantOne {t : Nat} {a0 : Int32} : call sc d MX11_wantOne [.ref t, .int a0] g = den sc d MX11_wantOne 0 [some (.ref t), some (.int a0), none, none, none] [] g := rfl
theorem c_X11_wantItem {t : Nat} : call sc d MX11_wantItem [.ref t] g = den sc d MX11_wantItem 0 [some (.ref t), none, none] [] g := rfl
theorem c_X11_family {t : Nat} : call sc d MX11_family [.ref t] g = den sc d MX11_family 0 [some (.ref t), none, none] [] g := rfl
theorem c_X11_isSheet {a0 : Int32} : call sc d MX11_isSheet [.int a0] g = den sc d MX11_isSheet 0 [some (.int a0)] [] g := rfl
theorem c_X11_narrow {a0 : Int32} {a1 : Int64} : call sc d MX11_narrow [.int a0, .long a1] g = den sc d MX11_narrow 0 [some (.int a0), some (.long a1), none] [] g := rfl
theorem c_X11_sheet {t : Nat} {a0 : Int32} {a1 : Int32} {a2 : Int32} : call sc d MX11_sheet [.ref t, .int a0, .int a1, .int a2] g = den sc d MX11_sheet 0 [some (.ref t), some (.int a0), some (.int a1), some (.int a2), none] [] g := rfl
theorem c_X11_write {t : Nat} {a0 : Int32} {a1 : Int32} {a2 : Int64} : call sc d MX11_write [.ref t, .int a0, .int a1, .long a2] g = den sc d MX11_write 0 [some (.ref t), some (.int a0), some (.int a1), some (.long a2), none, none, none] [] g := rfl
theorem c_X11_isPart_ {t : Nat} {a0 : Int32} {a1 : Int32} {a2 : Int32} : call sc d MX11_isPart_ [.ref t, .int a0, .int a1, .int a2] g = den sc d MX11_isPart_ 0 [some (.ref t), some (.int a0), some (.int a1), some (.int a2)] [] g := rfl
theorem c_X11_copy {t : Nat} {a0 : Int32} {a1 : Int32} {a2 : Int32} {a3 : Int32} {a4 : Int32} : call sc d MX11_copy [.ref t, .int a0, .int a1, .int a2, .int a3, .int a4] g = den sc d MX11_copy 0 [some (.ref t), some (.int a0), some (.int a1), some (.int a2), some (.int a3), some (.int a4), none] [] g := rfl
theorem c_X11_badSheet {t : Nat} {a0 : Int32} : call sc d MX11_badSheet [.ref t, .int a0] g = den sc d MX11_badSheet 0 [some (.ref t), some (.int a0)] [] g := rfl
theorem c_X11_lays {t : Nat} {a0 : Int32} : call sc d MX11_lays [.ref t, .int a0] g = den sc d MX11_lays 0 [some (.ref t), some (.int a0), none, none, none, none, none] [] g := rfl
theorem c_X11_book {t : Nat} {a0 : Int32} {a1 : Int32} : call sc d MX11_book [.ref t, .int a0, .int a1] g = den sc d MX11_book 0 [some (.ref t), some (.int a0), some (.int a1), none, none] [] g := rfl
theorem c_X11_isSo {t : Nat} {a0 : Int32} {a1 : Int32} : call sc d MX11_isSo [.ref t, .int a0, .int a1] g = den sc d MX11_isSo 0 [some (.ref t), some (.int a0), some (.int a1), none, none] [] g := rfl
theorem c_X11_read {t : Nat} {a0 : Int32} {a1 : Int32} : call sc d MX11_read [.ref t, .int a0, .int a1] g = den sc d MX11_read 0 [some (.ref t), some (.int a0), some (.int a1), none, none, none] [] g := rfl
theorem c_X11_moveAll {t : Nat} {a0 : Int32} {a1 : Nat} : call sc d MX11_moveAll [.ref t, .int a0, .ref a1] g = den sc d MX11_moveAll 0 [some (.ref t), some (.int a0), some (.ref a1), none] [] g := rfl
theorem c_X11_image {t : Nat} : call sc d MX11_image [.ref t] g = den sc d MX11_image 0 [some (.ref t)] [] g := rfl
theorem c_X11_undo {t : Nat} : call sc d MX11_undo [.ref t] g = den sc d MX11_undo 0 [some (.ref t)] [] g := rfl
theorem c_X11_tear {t : Nat} : call sc d MX11_tear [.ref t] g = den sc d MX11_tear 0 [some (.ref t), none] [] g := rfl
theorem c_X11_count {t : Nat} {a0 : Int32} : call sc d MX11_count [.ref t, .int a0] g = den sc d MX11_count 0 [some (.ref t), some (.int a0)] [] g := rfl
theorem c_X11_thingsOf {t : Nat} : call sc d MX11_thingsOf [.ref t] g = den sc d MX11_thingsOf 0 [some (.ref t), none, none] [] g := rfl
theorem c_X11_status {t : Nat} {a0 : Int32} : call sc d MX11_status [.ref t, .int a0] g = den sc d MX11_status 0 [some (.ref t), some (.int a0), none, none] [] g := rfl
theorem c_J6_bitCount_0f7a4 {a0 : Int32} : call sc d MJ6_bitCount_0f7a4 [.int a0] g = den sc d MJ6_bitCount_0f7a4 0 [some (.int a0)] [] g := rfl
theorem c_J0_length_8abf5 {t : Nat} : call sc d MJ0_length_8abf5 [.ref t] g = den sc d MJ0_length_8abf5 0 [some (.ref t)] [] g := rfl
theorem c_J0_charAt_5068e {t : Nat} {a0 : Int32} : call sc d MJ0_charAt_5068e [.ref t, .int a0] g = den sc d MJ0_charAt_5068e 0 [some (.ref t), some (.int a0)] [] g := rfl
theorem c_J0_coder_7d493 {t : Nat} : call sc d MJ0_coder_7d493 [.ref t] g = den sc d MJ0_coder_7d493 0 [some (.ref t)] [] g := rfl
theorem c_J0_isLatin1_aae02 {t : Nat} : call sc d MJ0_isLatin1_aae02 [.ref t] g = den sc d MJ0_isLatin1_aae02 0 [some (.ref t)] [] g := rfl
theorem c_J0_checkIndex_df160 {a0 : Int32} {a1 : Int32} : call sc d MJ0_checkIndex_df160 [.int a0, .int a1] g = den sc d MJ0_checkIndex_df160 0 [some (.int a0), some (.int a1)] [] g := rfl
theorem c_J1_charAt_3b067 {a0 : Nat} {a1 : Int32} : call sc d MJ1_charAt_3b067 [.ref a0, .int a1] g = den sc d MJ1_charAt_3b067 0 [some (.ref a0), some (.int a1)] [] g := rfl
theorem c_J7_fill_d0a16 {a0 : Nat} {a1 : Int64} : call sc d MJ7_fill_d0a16 [.ref a0, .long a1] g = den sc d MJ7_fill_d0a16 0 [some (.ref a0), some (.long a1), none, none, none] [] g := rfl
theorem c_J3_checkIndex_8e157 {a0 : Int32} {a1 : Int32} {a2 : Nat} : call sc d MJ3_checkIndex_8e157 [.int a0, .int a1, .ref a2] g = den sc d MJ3_checkIndex_8e157 0 [some (.int a0), some (.int a1), some (.ref a2)] [] g := rfl
theorem c_L_law {a0 : Nat} : call sc d ML_law [.ref a0] g = den sc d ML_law 0 [some (.ref a0), none, none, none] [] g := rfl
end
