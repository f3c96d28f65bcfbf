theorem ckX8_person : am_all (iX8_person, tX8_person) = true := by decide +kernel
theorem ckX3_fits : am_all (iX3_fits, tX3_fits) = true := by decide +kernel
theorem ckX3_isFull : am_all (iX3_isFull, tX3_isFull) = true := by decide +kernel
theorem ckX3_welcome : am_all (iX3_welcome, tX3_welcome) = true := by decide +kernel
theorem ckX3_tell : am_all (iX3_tell, tX3_tell) = true := by decide +kernel
theorem ckX3_tells : am_all (iX3_tells, tX3_tells) = true := by decide +kernel
theorem ckX3_has : am_all (iX3_has, tX3_has) = true := by decide +kernel
theorem ckX3_placeOf : am_all (iX3_placeOf, tX3_placeOf) = true := by decide +kernel
theorem ckX8_people : am_all (iX8_people, tX8_people) = true := by decide +kernel
theorem ckX8_isShelf : am_all (iX8_isShelf, tX8_isShelf) = true := by decide +kernel
theorem ckX5_isEmpty : am_all (iX5_isEmpty, tX5_isEmpty) = true := by decide +kernel
theorem ckX5_isOfBytes : am_all (iX5_isOfBytes, tX5_isOfBytes) = true := by decide +kernel
theorem ckX8_comesFrom : am_all (iX8_comesFrom, tX8_comesFrom) = true := by decide +kernel
theorem ckX5_hasPlaces : am_all (iX5_hasPlaces, tX5_hasPlaces) = true := by decide +kernel
theorem ckX5_number : am_all (iX5_number, tX5_number) = true := by decide +kernel
theorem ckX8_mend : am_all (iX8_mend, tX8_mend) = true := by decide +kernel
theorem ckX3_told : am_all (iX3_told, tX3_told) = true := by decide +kernel
theorem ckX1_add : am_all (iX1_add, tX1_add) = true := by decide +kernel
theorem ckX1_dropOldest : am_all (iX1_dropOldest, tX1_dropOldest) = true := by decide +kernel
theorem ckX8_of : am_all (iX8_of, tX8_of) = true := by decide +kernel
theorem ckX2_wearerOf : am_all (iX2_wearerOf, tX2_wearerOf) = true := by decide +kernel
theorem ckX2_isIn : am_all (iX2_isIn, tX2_isIn) = true := by decide +kernel
theorem ckX2_leftOf : am_all (iX2_leftOf, tX2_leftOf) = true := by decide +kernel
theorem ckX8_cracks : am_all (iX8_cracks, tX8_cracks) = true := by decide +kernel
theorem ckX2_wornBy : am_all (iX2_wornBy, tX2_wornBy) = true := by decide +kernel
theorem ckX8_feed : am_all (iX8_feed, tX8_feed) = true := by decide +kernel
theorem ckX6_isFull : am_all (iX6_isFull, tX6_isFull) = true := by decide +kernel
theorem ckX6_add : am_all (iX6_add, tX6_add) = true := by decide +kernel
theorem ckX8_law : am_all (iX8_law, tX8_law) = true := by decide +kernel
theorem ckX6_read : am_all (iX6_read, tX6_read) = true := by decide +kernel
theorem ckX6_readLine : am_all (iX6_readLine, tX6_readLine) = true := by decide +kernel
theorem ckX6_readLevel : am_all (iX6_readLevel, tX6_readLevel) = true := by decide +kernel
theorem ckX6_readOne : am_all (iX6_readOne, tX6_readOne) = true := by decide +kernel
theorem ckX6_next : am_all (iX6_next, tX6_next) = true := by decide +kernel
theorem ckX6_isDigit : am_all (iX6_isDigit, tX6_isDigit) = true := by decide +kernel
theorem ckX6_readNumber : am_all (iX6_readNumber, tX6_readNumber) = true := by decide +kernel
theorem ckX6_write : am_all (iX6_write, tX6_write) = true := by decide +kernel
theorem ckX4_valueCalled : am_all (iX4_valueCalled, tX4_valueCalled) = true := by decide +kernel
theorem ckX6_readInside : am_all (iX6_readInside, tX6_readInside) = true := by decide +kernel
theorem ckX6_readTurned : am_all (iX6_readTurned, tX6_readTurned) = true := by decide +kernel
theorem ckX6_levelOf : am_all (iX6_levelOf, tX6_levelOf) = true := by decide +kernel
theorem ckX6_handTo : am_all (iX6_handTo, tX6_handTo) = true := by decide +kernel
theorem ckX4_become : am_all (iX4_become, tX4_become) = true := by decide +kernel
theorem ckX6_clear : am_all (iX6_clear, tX6_clear) = true := by decide +kernel
theorem ckX8_burns : am_all (iX8_burns, tX8_burns) = true := by decide +kernel
theorem ckX8_rateNow : am_all (iX8_rateNow, tX8_rateNow) = true := by decide +kernel
theorem ckX3_cold : am_all (iX3_cold, tX3_cold) = true := by decide +kernel
theorem ckX8_rate : am_all (iX8_rate, tX8_rate) = true := by decide +kernel
theorem ckX4_burnt : am_all (iX4_burnt, tX4_burnt) = true := by decide +kernel
theorem ckX4_held : am_all (iX4_held, tX4_held) = true := by decide +kernel
theorem ckX4_workOut : am_all (iX4_workOut, tX4_workOut) = true := by decide +kernel
theorem ckX4_isLaid : am_all (iX4_isLaid, tX4_isLaid) = true := by decide +kernel
theorem ckX4_needed : am_all (iX4_needed, tX4_needed) = true := by decide +kernel
theorem ckX4_turned : am_all (iX4_turned, tX4_turned) = true := by decide +kernel
theorem ckX4_joined : am_all (iX4_joined, tX4_joined) = true := by decide +kernel
theorem ckX8_left : am_all (iX8_left, tX8_left) = true := by decide +kernel
theorem ckX8_isTo99 : am_all (iX8_isTo99, tX8_isTo99) = true := by decide +kernel
theorem ckX8_leftAfter : am_all (iX8_leftAfter, tX8_leftAfter) = true := by decide +kernel
theorem ckX2_leftBy : am_all (iX2_leftBy, tX2_leftBy) = true := by decide +kernel
theorem ckX8_winter : am_all (iX8_winter, tX8_winter) = true := by decide +kernel
theorem ckX3_size : am_all (iX3_size, tX3_size) = true := by decide +kernel
theorem ckX8_when : am_all (iX8_when, tX8_when) = true := by decide +kernel
theorem ckX8_firstDay : am_all (iX8_firstDay, tX8_firstDay) = true := by decide +kernel
theorem ckX8_last : am_all (iX8_last, tX8_last) = true := by decide +kernel
theorem ckX8_give : am_all (iX8_give, tX8_give) = true := by decide +kernel
theorem ckX8_mayWearMore : am_all (iX8_mayWearMore, tX8_mayWearMore) = true := by decide +kernel
theorem ckX8_allLast : am_all (iX8_allLast, tX8_allLast) = true := by decide +kernel
theorem ckX8_beginWays : am_all (iX8_beginWays, tX8_beginWays) = true := by decide +kernel
theorem ckX7_begin : am_all (iX7_begin, tX7_begin) = true := by decide +kernel
theorem ckX7_setCoats : am_all (iX7_setCoats, tX7_setCoats) = true := by decide +kernel
theorem ckX7_has : am_all (iX7_has, tX7_has) = true := by decide +kernel
theorem ckX8_costAfter : am_all (iX8_costAfter, tX8_costAfter) = true := by decide +kernel
theorem ckX8_threesNotSo : am_all (iX8_threesNotSo, tX8_threesNotSo) = true := by decide +kernel
theorem ckX5_size : am_all (iX5_size, tX5_size) = true := by decide +kernel
theorem ckX8_isSo : am_all (iX8_isSo, tX8_isSo) = true := by decide +kernel
theorem ckX7_setCost : am_all (iX7_setCost, tX7_setCost) = true := by decide +kernel
theorem ckX7_placeOf : am_all (iX7_placeOf, tX7_placeOf) = true := by decide +kernel
theorem ckX7_total : am_all (iX7_total, tX7_total) = true := by decide +kernel
theorem ckX7_fits : am_all (iX7_fits, tX7_fits) = true := by decide +kernel
theorem ckX7_cost : am_all (iX7_cost, tX7_cost) = true := by decide +kernel
theorem ckX7_markFirst : am_all (iX7_markFirst, tX7_markFirst) = true := by decide +kernel
theorem ckX7_goOn : am_all (iX7_goOn, tX7_goOn) = true := by decide +kernel
theorem ckX7_firstWearer : am_all (iX7_firstWearer, tX7_firstWearer) = true := by decide +kernel
theorem ckX8_fewest : am_all (iX8_fewest, tX8_fewest) = true := by decide +kernel
theorem ckX7_wearers : am_all (iX7_wearers, tX7_wearers) = true := by decide +kernel
theorem ckX8_thaws : am_all (iX8_thaws, tX8_thaws) = true := by decide +kernel
theorem ckX8_minutesOfThaw : am_all (iX8_minutesOfThaw, tX8_minutesOfThaw) = true := by decide +kernel
theorem ckX2_minuteHome : am_all (iX2_minuteHome, tX2_minuteHome) = true := by decide +kernel
theorem ckX8_ring : am_all (iX8_ring, tX8_ring) = true := by decide +kernel
theorem ckX8_crowd : am_all (iX8_crowd, tX8_crowd) = true := by decide +kernel
theorem ckX8_letter : am_all (iX8_letter, tX8_letter) = true := by decide +kernel
theorem ckJ6_bitCount_0f7a4 : am_all (iJ6_bitCount_0f7a4, tJ6_bitCount_0f7a4) = true := by decide +kernel
theorem ckX8_owe : am_all (iX8_owe, tX8_owe) = true := by decide +kernel
theorem ckX2_debtOf : am_all (iX2_debtOf, tX2_debtOf) = true := by decide +kernel
theorem ckX2_setDebt : am_all (iX2_setDebt, tX2_setDebt) = true := by decide +kernel
theorem ckX8_debt : am_all (iX8_debt, tX8_debt) = true := by decide +kernel
theorem ckX8_allThatSleeps : am_all (iX8_allThatSleeps, tX8_allThatSleeps) = true := by decide +kernel
theorem ckX2_sleeps : am_all (iX2_sleeps, tX2_sleeps) = true := by decide +kernel
theorem ckX8_doors : am_all (iX8_doors, tX8_doors) = true := by decide +kernel
theorem ckX8_gainOfExchange : am_all (iX8_gainOfExchange, tX8_gainOfExchange) = true := by decide +kernel
theorem ckX8_leftWith : am_all (iX8_leftWith, tX8_leftWith) = true := by decide +kernel
theorem ckX8_judge : am_all (iX8_judge, tX8_judge) = true := by decide +kernel
theorem ckX8_refusalOfBytes : am_all (iX8_refusalOfBytes, tX8_refusalOfBytes) = true := by decide +kernel
theorem ckX8_isThree : am_all (iX8_isThree, tX8_isThree) = true := by decide +kernel
theorem ckX8_wore : am_all (iX8_wore, tX8_wore) = true := by decide +kernel
theorem ckX8_areThrees : am_all (iX8_areThrees, tX8_areThrees) = true := by decide +kernel
theorem ckX8_waysThatMakeSo : am_all (iX8_waysThatMakeSo, tX8_waysThatMakeSo) = true := by decide +kernel
theorem ckX8_drawn : am_all (iX8_drawn, tX8_drawn) = true := by decide +kernel
theorem ckX8_fillRatesByCold : am_all (iX8_fillRatesByCold, tX8_fillRatesByCold) = true := by decide +kernel
theorem ckX2_copyLeft : am_all (iX2_copyLeft, tX2_copyLeft) = true := by decide +kernel
theorem ckX8_drawWinter : am_all (iX8_drawWinter, tX8_drawWinter) = true := by decide +kernel
theorem ckX8_lend : am_all (iX8_lend, tX8_lend) = true := by decide +kernel
theorem ckX2_lendTo : am_all (iX2_lendTo, tX2_lendTo) = true := by decide +kernel
theorem ckX8_pass : am_all (iX8_pass, tX8_pass) = true := by decide +kernel
theorem ckX2_setLeft : am_all (iX2_setLeft, tX2_setLeft) = true := by decide +kernel
theorem ckX2_addDays : am_all (iX2_addDays, tX2_addDays) = true := by decide +kernel
theorem ckX8_thaw : am_all (iX8_thaw, tX8_thaw) = true := by decide +kernel
theorem ckX2_bringHome : am_all (iX2_bringHome, tX2_bringHome) = true := by decide +kernel
theorem ckX8_led : am_all (iX8_led, tX8_led) = true := by decide +kernel
theorem ckX2_days : am_all (iX2_days, tX2_days) = true := by decide +kernel
theorem ckX2_lendings : am_all (iX2_lendings, tX2_lendings) = true := by decide +kernel
theorem ckX2_homecomings : am_all (iX2_homecomings, tX2_homecomings) = true := by decide +kernel
theorem ckX8_burntNow : am_all (iX8_burntNow, tX8_burntNow) = true := by decide +kernel
theorem ckX8_image : am_all (iX8_image, tX8_image) = true := by decide +kernel
theorem ckX2_copyFrom : am_all (iX2_copyFrom, tX2_copyFrom) = true := by decide +kernel
theorem ckX8_back : am_all (iX8_back, tX8_back) = true := by decide +kernel
theorem ckX8_undo : am_all (iX8_undo, tX8_undo) = true := by decide +kernel
theorem ckX1_mayGoBack : am_all (iX1_mayGoBack, tX1_mayGoBack) = true := by decide +kernel
theorem ckX1_goBack : am_all (iX1_goBack, tX1_goBack) = true := by decide +kernel
theorem ckX8_redo : am_all (iX8_redo, tX8_redo) = true := by decide +kernel
theorem ckX1_mayGoOn : am_all (iX1_mayGoOn, tX1_mayGoOn) = true := by decide +kernel
theorem ckX1_goOn : am_all (iX1_goOn, tX1_goOn) = true := by decide +kernel
theorem ckX8_body : am_all (iX8_body, tX8_body) = true := by decide +kernel
theorem ckX0_isKind : am_all (iX0_isKind, tX0_isKind) = true := by decide +kernel
theorem ckX0_isFull : am_all (iX0_isFull, tX0_isFull) = true := by decide +kernel
theorem ckX0_add : am_all (iX0_add, tX0_add) = true := by decide +kernel
theorem ckX8_act : am_all (iX8_act, tX8_act) = true := by decide +kernel
theorem ckX0_start : am_all (iX0_start, tX0_start) = true := by decide +kernel
theorem ckX0_has : am_all (iX0_has, tX0_has) = true := by decide +kernel
theorem ckX0_own : am_all (iX0_own, tX0_own) = true := by decide +kernel
theorem ckX0_kindOf : am_all (iX0_kindOf, tX0_kindOf) = true := by decide +kernel
theorem ckX0_from : am_all (iX0_from, tX0_from) = true := by decide +kernel
theorem ckX0_note : am_all (iX0_note, tX0_note) = true := by decide +kernel
theorem ckX0_runOfName : am_all (iX0_runOfName, tX0_runOfName) = true := by decide +kernel
theorem ckX0_runUnder : am_all (iX0_runUnder, tX0_runUnder) = true := by decide +kernel
theorem ckX8_trace : am_all (iX8_trace, tX8_trace) = true := by decide +kernel
theorem ckX0_hasTrace : am_all (iX0_hasTrace, tX0_hasTrace) = true := by decide +kernel
theorem ckX0_traced : am_all (iX0_traced, tX0_traced) = true := by decide +kernel
theorem ckX8_keep : am_all (iX8_keep, tX8_keep) = true := by decide +kernel
theorem ckX5_holdNothing : am_all (iX5_holdNothing, tX5_holdNothing) = true := by decide +kernel
theorem ckX5_holdName : am_all (iX5_holdName, tX5_holdName) = true := by decide +kernel
theorem ckX8_row : am_all (iX8_row, tX8_row) = true := by decide +kernel
theorem ckX5_isSort : am_all (iX5_isSort, tX5_isSort) = true := by decide +kernel
theorem ckX5_holdRow : am_all (iX5_holdRow, tX5_holdRow) = true := by decide +kernel
theorem ckX8_put : am_all (iX8_put, tX8_put) = true := by decide +kernel
theorem ckX8_refusalOfPlace : am_all (iX8_refusalOfPlace, tX8_refusalOfPlace) = true := by decide +kernel
theorem ckX5_isRow : am_all (iX5_isRow, tX5_isRow) = true := by decide +kernel
theorem ckX5_set : am_all (iX5_set, tX5_set) = true := by decide +kernel
theorem ckX5_cut : am_all (iX5_cut, tX5_cut) = true := by decide +kernel
theorem ckX8_element : am_all (iX8_element, tX8_element) = true := by decide +kernel
theorem ckX5_get : am_all (iX5_get, tX5_get) = true := by decide +kernel
theorem ckX8_shift : am_all (iX8_shift, tX8_shift) = true := by decide +kernel
theorem ckX5_isLike : am_all (iX5_isLike, tX5_isLike) = true := by decide +kernel
theorem ckX5_setAll : am_all (iX5_setAll, tX5_setAll) = true := by decide +kernel
theorem ckX8_taken : am_all (iX8_taken, tX8_taken) = true := by decide +kernel
theorem ckX5_isName : am_all (iX5_isName, tX5_isName) = true := by decide +kernel
theorem ckX5_name : am_all (iX5_name, tX5_name) = true := by decide +kernel
theorem ckX0_isUnder : am_all (iX0_isUnder, tX0_isUnder) = true := by decide +kernel
theorem ckX8_count : am_all (iX8_count, tX8_count) = true := by decide +kernel
theorem ckX2_given : am_all (iX2_given, tX2_given) = true := by decide +kernel
theorem ckX6_length : am_all (iX6_length, tX6_length) = true := by decide +kernel
theorem ckX0_size : am_all (iX0_size, tX0_size) = true := by decide +kernel
theorem ckX0_ran : am_all (iX0_ran, tX0_ran) = true := by decide +kernel
theorem ckX9_undo : am_all (iX9_undo, tX9_undo) = true := by decide +kernel
theorem ckX9_redo : am_all (iX9_redo, tX9_redo) = true := by decide +kernel
theorem ckX9_person : am_all (iX9_person, tX9_person) = true := by decide +kernel
theorem ckX9_mayCome : am_all (iX9_mayCome, tX9_mayCome) = true := by decide +kernel
theorem ckX9_within : am_all (iX9_within, tX9_within) = true := by decide +kernel
theorem ckX9_adds : am_all (iX9_adds, tX9_adds) = true := by decide +kernel
theorem ckX9_people : am_all (iX9_people, tX9_people) = true := by decide +kernel
theorem ckX9_isShelf : am_all (iX9_isShelf, tX9_isShelf) = true := by decide +kernel
theorem ckX9_mend : am_all (iX9_mend, tX9_mend) = true := by decide +kernel
theorem ckX9_placeOf : am_all (iX9_placeOf, tX9_placeOf) = true := by decide +kernel
theorem ckX9_isOne : am_all (iX9_isOne, tX9_isOne) = true := by decide +kernel
theorem ckX9_mayBecome : am_all (iX9_mayBecome, tX9_mayBecome) = true := by decide +kernel
theorem ckX9_becomes : am_all (iX9_becomes, tX9_becomes) = true := by decide +kernel
theorem ckX9_of : am_all (iX9_of, tX9_of) = true := by decide +kernel
theorem ckX9_ofOne : am_all (iX9_ofOne, tX9_ofOne) = true := by decide +kernel
theorem ckX9_wearsMany : am_all (iX9_wearsMany, tX9_wearsMany) = true := by decide +kernel
theorem ckX9_feed : am_all (iX9_feed, tX9_feed) = true := by decide +kernel
theorem ckX9_law : am_all (iX9_law, tX9_law) = true := by decide +kernel
theorem ckX9_workOut : am_all (iX9_workOut, tX9_workOut) = true := by decide +kernel
theorem ckX9_either : am_all (iX9_either, tX9_either) = true := by decide +kernel
theorem ckX9_both : am_all (iX9_both, tX9_both) = true := by decide +kernel
theorem ckX9_compared : am_all (iX9_compared, tX9_compared) = true := by decide +kernel
theorem ckX9_sums : am_all (iX9_sums, tX9_sums) = true := by decide +kernel
theorem ckX9_product : am_all (iX9_product, tX9_product) = true := by decide +kernel
theorem ckX9_one : am_all (iX9_one, tX9_one) = true := by decide +kernel
theorem ckX9_byteAt : am_all (iX9_byteAt, tX9_byteAt) = true := by decide +kernel
theorem ckX9_wrong : am_all (iX9_wrong, tX9_wrong) = true := by decide +kernel
theorem ckX9_takes : am_all (iX9_takes, tX9_takes) = true := by decide +kernel
theorem ckX9_nameOf : am_all (iX9_nameOf, tX9_nameOf) = true := by decide +kernel
theorem ckX9_burns : am_all (iX9_burns, tX9_burns) = true := by decide +kernel
theorem ckX9_burnsIn : am_all (iX9_burnsIn, tX9_burnsIn) = true := by decide +kernel
theorem ckX9_left : am_all (iX9_left, tX9_left) = true := by decide +kernel
theorem ckX9_isN : am_all (iX9_isN, tX9_isN) = true := by decide +kernel
theorem ckX9_goes : am_all (iX9_goes, tX9_goes) = true := by decide +kernel
theorem ckX9_begins1 : am_all (iX9_begins1, tX9_begins1) = true := by decide +kernel
theorem ckX9_day : am_all (iX9_day, tX9_day) = true := by decide +kernel
theorem ckX9_winter : am_all (iX9_winter, tX9_winter) = true := by decide +kernel
theorem ckX9_crackedMany : am_all (iX9_crackedMany, tX9_crackedMany) = true := by decide +kernel
theorem ckX9_burntMany : am_all (iX9_burntMany, tX9_burntMany) = true := by decide +kernel
theorem ckX9_leftAll : am_all (iX9_leftAll, tX9_leftAll) = true := by decide +kernel
theorem ckX9_when : am_all (iX9_when, tX9_when) = true := by decide +kernel
theorem ckX9_lessThan : am_all (iX9_lessThan, tX9_lessThan) = true := by decide +kernel
theorem ckX9_last : am_all (iX9_last, tX9_last) = true := by decide +kernel
theorem ckX9_give : am_all (iX9_give, tX9_give) = true := by decide +kernel
theorem ckX9_allLast : am_all (iX9_allLast, tX9_allLast) = true := by decide +kernel
theorem ckX9_beginsWays : am_all (iX9_beginsWays, tX9_beginsWays) = true := by decide +kernel
theorem ckX9_isWay : am_all (iX9_isWay, tX9_isWay) = true := by decide +kernel
theorem ckX9_keepsWay : am_all (iX9_keepsWay, tX9_keepsWay) = true := by decide +kernel
theorem ckX9_endsWays : am_all (iX9_endsWays, tX9_endsWays) = true := by decide +kernel
theorem ckX9_fewest : am_all (iX9_fewest, tX9_fewest) = true := by decide +kernel
theorem ckX9_thaws : am_all (iX9_thaws, tX9_thaws) = true := by decide +kernel
theorem ckX9_thawMinutes : am_all (iX9_thawMinutes, tX9_thawMinutes) = true := by decide +kernel
theorem ckX9_homeIn : am_all (iX9_homeIn, tX9_homeIn) = true := by decide +kernel
theorem ckX9_ring : am_all (iX9_ring, tX9_ring) = true := by decide +kernel
theorem ckX9_crowd : am_all (iX9_crowd, tX9_crowd) = true := by decide +kernel
theorem ckX9_letter : am_all (iX9_letter, tX9_letter) = true := by decide +kernel
theorem ckX9_owe : am_all (iX9_owe, tX9_owe) = true := by decide +kernel
theorem ckX9_debt : am_all (iX9_debt, tX9_debt) = true := by decide +kernel
theorem ckX9_isHome : am_all (iX9_isHome, tX9_isHome) = true := by decide +kernel
theorem ckX9_doors : am_all (iX9_doors, tX9_doors) = true := by decide +kernel
theorem ckX9_judge : am_all (iX9_judge, tX9_judge) = true := by decide +kernel
theorem ckX9_bytesIs : am_all (iX9_bytesIs, tX9_bytesIs) = true := by decide +kernel
theorem ckX9_firstFalse : am_all (iX9_firstFalse, tX9_firstFalse) = true := by decide +kernel
theorem ckX9_wore : am_all (iX9_wore, tX9_wore) = true := by decide +kernel
theorem ckX9_drawn : am_all (iX9_drawn, tX9_drawn) = true := by decide +kernel
theorem ckX9_lend : am_all (iX9_lend, tX9_lend) = true := by decide +kernel
theorem ckX9_pass : am_all (iX9_pass, tX9_pass) = true := by decide +kernel
theorem ckX9_thaw : am_all (iX9_thaw, tX9_thaw) = true := by decide +kernel
theorem ckX9_led : am_all (iX9_led, tX9_led) = true := by decide +kernel
theorem ckX9_image : am_all (iX9_image, tX9_image) = true := by decide +kernel
theorem ckX9_back : am_all (iX9_back, tX9_back) = true := by decide +kernel
theorem ckX9_body : am_all (iX9_body, tX9_body) = true := by decide +kernel
theorem ckX9_act : am_all (iX9_act, tX9_act) = true := by decide +kernel
theorem ckX9_isBody : am_all (iX9_isBody, tX9_isBody) = true := by decide +kernel
theorem ckX9_wearsAs : am_all (iX9_wearsAs, tX9_wearsAs) = true := by decide +kernel
theorem ckX9_begins : am_all (iX9_begins, tX9_begins) = true := by decide +kernel
theorem ckX9_freezesAs : am_all (iX9_freezesAs, tX9_freezesAs) = true := by decide +kernel
theorem ckX9_callsAs : am_all (iX9_callsAs, tX9_callsAs) = true := by decide +kernel
theorem ckX9_tellsAs : am_all (iX9_tellsAs, tX9_tellsAs) = true := by decide +kernel
theorem ckX9_trace : am_all (iX9_trace, tX9_trace) = true := by decide +kernel
theorem ckX9_keep : am_all (iX9_keep, tX9_keep) = true := by decide +kernel
theorem ckX9_row : am_all (iX9_row, tX9_row) = true := by decide +kernel
theorem ckX9_put : am_all (iX9_put, tX9_put) = true := by decide +kernel
theorem ckX9_refusal : am_all (iX9_refusal, tX9_refusal) = true := by decide +kernel
theorem ckX9_asSort : am_all (iX9_asSort, tX9_asSort) = true := by decide +kernel
theorem ckX9_element : am_all (iX9_element, tX9_element) = true := by decide +kernel
theorem ckX9_shift : am_all (iX9_shift, tX9_shift) = true := by decide +kernel
theorem ckX9_taken : am_all (iX9_taken, tX9_taken) = true := by decide +kernel
theorem ckX9_kindOf : am_all (iX9_kindOf, tX9_kindOf) = true := by decide +kernel
theorem ckX9_above : am_all (iX9_above, tX9_above) = true := by decide +kernel
theorem ckX9_count : am_all (iX9_count, tX9_count) = true := by decide +kernel
theorem ckX9_givenMany : am_all (iX9_givenMany, tX9_givenMany) = true := by decide +kernel
set_option maxRecDepth 20000 in
theorem ck_c0 : ∀ p ∈ am_ms0.zip am_tb0, am_all p = true := List.forall_mem_cons.mpr ⟨ckX8_person, List.forall_mem_cons.mpr ⟨ckX3_fits, List.forall_mem_cons.mpr ⟨ckX3_isFull, List.forall_mem_cons.mpr ⟨ckX3_welcome, List.forall_mem_cons.mpr ⟨ckX3_tell, List.forall_mem_cons.mpr ⟨ckX3_tells, List.forall_mem_cons.mpr ⟨ckX3_has, List.forall_mem_cons.mpr ⟨ckX3_placeOf, List.forall_mem_cons.mpr ⟨ckX8_people, List.forall_mem_cons.mpr ⟨ckX8_isShelf, List.forall_mem_cons.mpr ⟨ckX5_isEmpty, List.forall_mem_cons.mpr ⟨ckX5_isOfBytes, List.forall_mem_cons.mpr ⟨ckX8_comesFrom, List.forall_mem_cons.mpr ⟨ckX5_hasPlaces, List.forall_mem_cons.mpr ⟨ckX5_number, List.forall_mem_cons.mpr ⟨ckX8_mend, List.forall_mem_cons.mpr ⟨ckX3_told, List.forall_mem_cons.mpr ⟨ckX1_add, List.forall_mem_cons.mpr ⟨ckX1_dropOldest, List.forall_mem_cons.mpr ⟨ckX8_of, List.forall_mem_cons.mpr ⟨ckX2_wearerOf, List.forall_mem_cons.mpr ⟨ckX2_isIn, List.forall_mem_cons.mpr ⟨ckX2_leftOf, List.forall_mem_cons.mpr ⟨ckX8_cracks, List.forall_mem_cons.mpr ⟨ckX2_wornBy, List.forall_mem_cons.mpr ⟨ckX8_feed, List.forall_mem_cons.mpr ⟨ckX6_isFull, List.forall_mem_cons.mpr ⟨ckX6_add, List.forall_mem_cons.mpr ⟨ckX8_law, List.forall_mem_cons.mpr ⟨ckX6_read, List.forall_mem_cons.mpr ⟨ckX6_readLine, List.forall_mem_cons.mpr ⟨ckX6_readLevel, List.forall_mem_cons.mpr ⟨ckX6_readOne, List.forall_mem_cons.mpr ⟨ckX6_next, List.forall_mem_cons.mpr ⟨ckX6_isDigit, List.forall_mem_cons.mpr ⟨ckX6_readNumber, List.forall_mem_cons.mpr ⟨ckX6_write, List.forall_mem_cons.mpr ⟨ckX4_valueCalled, List.forall_mem_cons.mpr ⟨ckX6_readInside, List.forall_mem_cons.mpr ⟨ckX6_readTurned, List.forall_mem_cons.mpr ⟨ckX6_levelOf, List.forall_mem_cons.mpr ⟨ckX6_handTo, List.forall_mem_cons.mpr ⟨ckX4_become, List.forall_mem_cons.mpr ⟨ckX6_clear, List.forall_mem_cons.mpr ⟨ckX8_burns, List.forall_mem_cons.mpr ⟨ckX8_rateNow, List.forall_mem_cons.mpr ⟨ckX3_cold, List.forall_mem_cons.mpr ⟨ckX8_rate, List.forall_mem_cons.mpr ⟨ckX4_burnt, List.forall_mem_cons.mpr ⟨ckX4_held, List.forall_mem_cons.mpr ⟨ckX4_workOut, List.forall_mem_cons.mpr ⟨ckX4_isLaid, List.forall_mem_cons.mpr ⟨ckX4_needed, List.forall_mem_cons.mpr ⟨ckX4_turned, List.forall_mem_cons.mpr ⟨ckX4_joined, List.forall_mem_cons.mpr ⟨ckX8_left, List.forall_mem_cons.mpr ⟨ckX8_isTo99, List.forall_mem_cons.mpr ⟨ckX8_leftAfter, List.forall_mem_cons.mpr ⟨ckX2_leftBy, List.forall_mem_cons.mpr ⟨ckX8_winter, List.forall_mem_cons.mpr ⟨ckX3_size, List.forall_mem_cons.mpr ⟨ckX8_when, List.forall_mem_cons.mpr ⟨ckX8_firstDay, List.forall_mem_cons.mpr ⟨ckX8_last, List.forall_mem_cons.mpr ⟨ckX8_give, List.forall_mem_cons.mpr ⟨ckX8_mayWearMore, List.forall_mem_cons.mpr ⟨ckX8_allLast, List.forall_mem_cons.mpr ⟨ckX8_beginWays, List.forall_mem_cons.mpr ⟨ckX7_begin, List.forall_mem_cons.mpr ⟨ckX7_setCoats, fun _ h => absurd h List.not_mem_nil⟩⟩⟩⟩⟩⟩⟩⟩⟩⟩⟩⟩⟩⟩⟩⟩⟩⟩⟩⟩⟩⟩⟩⟩⟩⟩⟩⟩⟩⟩⟩⟩⟩⟩⟩⟩⟩⟩⟩⟩⟩⟩⟩⟩⟩⟩⟩⟩⟩⟩⟩⟩⟩⟩⟩⟩⟩⟩⟩⟩⟩⟩⟩⟩⟩⟩⟩⟩⟩⟩
set_option maxRecDepth 20000 in
theorem ck_c1 : ∀ p ∈ am_ms1.zip am_tb1, am_all p = true := List.forall_mem_cons.mpr ⟨ckX7_has, List.forall_mem_cons.mpr ⟨ckX8_costAfter, List.forall_mem_cons.mpr ⟨ckX8_threesNotSo, List.forall_mem_cons.mpr ⟨ckX5_size, List.forall_mem_cons.mpr ⟨ckX8_isSo, List.forall_mem_cons.mpr ⟨ckX7_setCost, List.forall_mem_cons.mpr ⟨ckX7_placeOf, List.forall_mem_cons.mpr ⟨ckX7_total, List.forall_mem_cons.mpr ⟨ckX7_fits, List.forall_mem_cons.mpr ⟨ckX7_cost, List.forall_mem_cons.mpr ⟨ckX7_markFirst, List.forall_mem_cons.mpr ⟨ckX7_goOn, List.forall_mem_cons.mpr ⟨ckX7_firstWearer, List.forall_mem_cons.mpr ⟨ckX8_fewest, List.forall_mem_cons.mpr ⟨ckX7_wearers, List.forall_mem_cons.mpr ⟨ckX8_thaws, List.forall_mem_cons.mpr ⟨ckX8_minutesOfThaw, List.forall_mem_cons.mpr ⟨ckX2_minuteHome, List.forall_mem_cons.mpr ⟨ckX8_ring, List.forall_mem_cons.mpr ⟨ckX8_crowd, List.forall_mem_cons.mpr ⟨ckX8_letter, List.forall_mem_cons.mpr ⟨ckJ6_bitCount_0f7a4, List.forall_mem_cons.mpr ⟨ckX8_owe, List.forall_mem_cons.mpr ⟨ckX2_debtOf, List.forall_mem_cons.mpr ⟨ckX2_setDebt, List.forall_mem_cons.mpr ⟨ckX8_debt, List.forall_mem_cons.mpr ⟨ckX8_allThatSleeps, List.forall_mem_cons.mpr ⟨ckX2_sleeps, List.forall_mem_cons.mpr ⟨ckX8_doors, List.forall_mem_cons.mpr ⟨ckX8_gainOfExchange, List.forall_mem_cons.mpr ⟨ckX8_leftWith, List.forall_mem_cons.mpr ⟨ckX8_judge, List.forall_mem_cons.mpr ⟨ckX8_refusalOfBytes, List.forall_mem_cons.mpr ⟨ckX8_isThree, List.forall_mem_cons.mpr ⟨ckX8_wore, List.forall_mem_cons.mpr ⟨ckX8_areThrees, List.forall_mem_cons.mpr ⟨ckX8_waysThatMakeSo, List.forall_mem_cons.mpr ⟨ckX8_drawn, List.forall_mem_cons.mpr ⟨ckX8_fillRatesByCold, List.forall_mem_cons.mpr ⟨ckX2_copyLeft, List.forall_mem_cons.mpr ⟨ckX8_drawWinter, List.forall_mem_cons.mpr ⟨ckX8_lend, List.forall_mem_cons.mpr ⟨ckX2_lendTo, List.forall_mem_cons.mpr ⟨ckX8_pass, List.forall_mem_cons.mpr ⟨ckX2_setLeft, List.forall_mem_cons.mpr ⟨ckX2_addDays, List.forall_mem_cons.mpr ⟨ckX8_thaw, List.forall_mem_cons.mpr ⟨ckX2_bringHome, List.forall_mem_cons.mpr ⟨ckX8_led, List.forall_mem_cons.mpr ⟨ckX2_days, List.forall_mem_cons.mpr ⟨ckX2_lendings, List.forall_mem_cons.mpr ⟨ckX2_homecomings, List.forall_mem_cons.mpr ⟨ckX8_burntNow, List.forall_mem_cons.mpr ⟨ckX8_image, List.forall_mem_cons.mpr ⟨ckX2_copyFrom, List.forall_mem_cons.mpr ⟨ckX8_back, List.forall_mem_cons.mpr ⟨ckX8_undo, List.forall_mem_cons.mpr ⟨ckX1_mayGoBack, List.forall_mem_cons.mpr ⟨ckX1_goBack, List.forall_mem_cons.mpr ⟨ckX8_redo, List.forall_mem_cons.mpr ⟨ckX1_mayGoOn, List.forall_mem_cons.mpr ⟨ckX1_goOn, List.forall_mem_cons.mpr ⟨ckX8_body, List.forall_mem_cons.mpr ⟨ckX0_isKind, List.forall_mem_cons.mpr ⟨ckX0_isFull, List.forall_mem_cons.mpr ⟨ckX0_add, List.forall_mem_cons.mpr ⟨ckX8_act, List.forall_mem_cons.mpr ⟨ckX0_start, List.forall_mem_cons.mpr ⟨ckX0_has, List.forall_mem_cons.mpr ⟨ckX0_own, fun _ h => absurd h List.not_mem_nil⟩⟩⟩⟩⟩⟩⟩⟩⟩⟩⟩⟩⟩⟩⟩⟩⟩⟩⟩⟩⟩⟩⟩⟩⟩⟩⟩⟩⟩⟩⟩⟩⟩⟩⟩⟩⟩⟩⟩⟩⟩⟩⟩⟩⟩⟩⟩⟩⟩⟩⟩⟩⟩⟩⟩⟩⟩⟩⟩⟩⟩⟩⟩⟩⟩⟩⟩⟩⟩⟩
set_option maxRecDepth 20000 in
theorem ck_c2 : ∀ p ∈ am_ms2.zip am_tb2, am_all p = true := List.forall_mem_cons.mpr ⟨ckX0_kindOf, List.forall_mem_cons.mpr ⟨ckX0_from, List.forall_mem_cons.mpr ⟨ckX0_note, List.forall_mem_cons.mpr ⟨ckX0_runOfName, List.forall_mem_cons.mpr ⟨ckX0_runUnder, List.forall_mem_cons.mpr ⟨ckX8_trace, List.forall_mem_cons.mpr ⟨ckX0_hasTrace, List.forall_mem_cons.mpr ⟨ckX0_traced, List.forall_mem_cons.mpr ⟨ckX8_keep, List.forall_mem_cons.mpr ⟨ckX5_holdNothing, List.forall_mem_cons.mpr ⟨ckX5_holdName, List.forall_mem_cons.mpr ⟨ckX8_row, List.forall_mem_cons.mpr ⟨ckX5_isSort, List.forall_mem_cons.mpr ⟨ckX5_holdRow, List.forall_mem_cons.mpr ⟨ckX8_put, List.forall_mem_cons.mpr ⟨ckX8_refusalOfPlace, List.forall_mem_cons.mpr ⟨ckX5_isRow, List.forall_mem_cons.mpr ⟨ckX5_set, List.forall_mem_cons.mpr ⟨ckX5_cut, List.forall_mem_cons.mpr ⟨ckX8_element, List.forall_mem_cons.mpr ⟨ckX5_get, List.forall_mem_cons.mpr ⟨ckX8_shift, List.forall_mem_cons.mpr ⟨ckX5_isLike, List.forall_mem_cons.mpr ⟨ckX5_setAll, List.forall_mem_cons.mpr ⟨ckX8_taken, List.forall_mem_cons.mpr ⟨ckX5_isName, List.forall_mem_cons.mpr ⟨ckX5_name, List.forall_mem_cons.mpr ⟨ckX0_isUnder, List.forall_mem_cons.mpr ⟨ckX8_count, List.forall_mem_cons.mpr ⟨ckX2_given, List.forall_mem_cons.mpr ⟨ckX6_length, List.forall_mem_cons.mpr ⟨ckX0_size, List.forall_mem_cons.mpr ⟨ckX0_ran, List.forall_mem_cons.mpr ⟨ckX9_undo, List.forall_mem_cons.mpr ⟨ckX9_redo, List.forall_mem_cons.mpr ⟨ckX9_person, List.forall_mem_cons.mpr ⟨ckX9_mayCome, List.forall_mem_cons.mpr ⟨ckX9_within, List.forall_mem_cons.mpr ⟨ckX9_adds, List.forall_mem_cons.mpr ⟨ckX9_people, List.forall_mem_cons.mpr ⟨ckX9_isShelf, List.forall_mem_cons.mpr ⟨ckX9_mend, List.forall_mem_cons.mpr ⟨ckX9_placeOf, List.forall_mem_cons.mpr ⟨ckX9_isOne, List.forall_mem_cons.mpr ⟨ckX9_mayBecome, List.forall_mem_cons.mpr ⟨ckX9_becomes, List.forall_mem_cons.mpr ⟨ckX9_of, List.forall_mem_cons.mpr ⟨ckX9_ofOne, List.forall_mem_cons.mpr ⟨ckX9_wearsMany, List.forall_mem_cons.mpr ⟨ckX9_feed, List.forall_mem_cons.mpr ⟨ckX9_law, List.forall_mem_cons.mpr ⟨ckX9_workOut, List.forall_mem_cons.mpr ⟨ckX9_either, List.forall_mem_cons.mpr ⟨ckX9_both, List.forall_mem_cons.mpr ⟨ckX9_compared, List.forall_mem_cons.mpr ⟨ckX9_sums, List.forall_mem_cons.mpr ⟨ckX9_product, List.forall_mem_cons.mpr ⟨ckX9_one, List.forall_mem_cons.mpr ⟨ckX9_byteAt, List.forall_mem_cons.mpr ⟨ckX9_wrong, List.forall_mem_cons.mpr ⟨ckX9_takes, List.forall_mem_cons.mpr ⟨ckX9_nameOf, List.forall_mem_cons.mpr ⟨ckX9_burns, List.forall_mem_cons.mpr ⟨ckX9_burnsIn, List.forall_mem_cons.mpr ⟨ckX9_left, List.forall_mem_cons.mpr ⟨ckX9_isN, List.forall_mem_cons.mpr ⟨ckX9_goes, List.forall_mem_cons.mpr ⟨ckX9_begins1, List.forall_mem_cons.mpr ⟨ckX9_day, List.forall_mem_cons.mpr ⟨ckX9_winter, fun _ h => absurd h List.not_mem_nil⟩⟩⟩⟩⟩⟩⟩⟩⟩⟩⟩⟩⟩⟩⟩⟩⟩⟩⟩⟩⟩⟩⟩⟩⟩⟩⟩⟩⟩⟩⟩⟩⟩⟩⟩⟩⟩⟩⟩⟩⟩⟩⟩⟩⟩⟩⟩⟩⟩⟩⟩⟩⟩⟩⟩⟩⟩⟩⟩⟩⟩⟩⟩⟩⟩⟩⟩⟩⟩⟩
set_option maxRecDepth 20000 in
theorem ck_c3 : ∀ p ∈ am_ms3.zip am_tb3, am_all p = true := List.forall_mem_cons.mpr ⟨ckX9_crackedMany, List.forall_mem_cons.mpr ⟨ckX9_burntMany, List.forall_mem_cons.mpr ⟨ckX9_leftAll, List.forall_mem_cons.mpr ⟨ckX9_when, List.forall_mem_cons.mpr ⟨ckX9_lessThan, List.forall_mem_cons.mpr ⟨ckX9_last, List.forall_mem_cons.mpr ⟨ckX9_give, List.forall_mem_cons.mpr ⟨ckX9_allLast, List.forall_mem_cons.mpr ⟨ckX9_beginsWays, List.forall_mem_cons.mpr ⟨ckX9_isWay, List.forall_mem_cons.mpr ⟨ckX9_keepsWay, List.forall_mem_cons.mpr ⟨ckX9_endsWays, List.forall_mem_cons.mpr ⟨ckX9_fewest, List.forall_mem_cons.mpr ⟨ckX9_thaws, List.forall_mem_cons.mpr ⟨ckX9_thawMinutes, List.forall_mem_cons.mpr ⟨ckX9_homeIn, List.forall_mem_cons.mpr ⟨ckX9_ring, List.forall_mem_cons.mpr ⟨ckX9_crowd, List.forall_mem_cons.mpr ⟨ckX9_letter, List.forall_mem_cons.mpr ⟨ckX9_owe, List.forall_mem_cons.mpr ⟨ckX9_debt, List.forall_mem_cons.mpr ⟨ckX9_isHome, List.forall_mem_cons.mpr ⟨ckX9_doors, List.forall_mem_cons.mpr ⟨ckX9_judge, List.forall_mem_cons.mpr ⟨ckX9_bytesIs, List.forall_mem_cons.mpr ⟨ckX9_firstFalse, List.forall_mem_cons.mpr ⟨ckX9_wore, List.forall_mem_cons.mpr ⟨ckX9_drawn, List.forall_mem_cons.mpr ⟨ckX9_lend, List.forall_mem_cons.mpr ⟨ckX9_pass, List.forall_mem_cons.mpr ⟨ckX9_thaw, List.forall_mem_cons.mpr ⟨ckX9_led, List.forall_mem_cons.mpr ⟨ckX9_image, List.forall_mem_cons.mpr ⟨ckX9_back, List.forall_mem_cons.mpr ⟨ckX9_body, List.forall_mem_cons.mpr ⟨ckX9_act, List.forall_mem_cons.mpr ⟨ckX9_isBody, List.forall_mem_cons.mpr ⟨ckX9_wearsAs, List.forall_mem_cons.mpr ⟨ckX9_begins, List.forall_mem_cons.mpr ⟨ckX9_freezesAs, List.forall_mem_cons.mpr ⟨ckX9_callsAs, List.forall_mem_cons.mpr ⟨ckX9_tellsAs, List.forall_mem_cons.mpr ⟨ckX9_trace, List.forall_mem_cons.mpr ⟨ckX9_keep, List.forall_mem_cons.mpr ⟨ckX9_row, List.forall_mem_cons.mpr ⟨ckX9_put, List.forall_mem_cons.mpr ⟨ckX9_refusal, List.forall_mem_cons.mpr ⟨ckX9_asSort, List.forall_mem_cons.mpr ⟨ckX9_element, List.forall_mem_cons.mpr ⟨ckX9_shift, List.forall_mem_cons.mpr ⟨ckX9_taken, List.forall_mem_cons.mpr ⟨ckX9_kindOf, List.forall_mem_cons.mpr ⟨ckX9_above, List.forall_mem_cons.mpr ⟨ckX9_count, List.forall_mem_cons.mpr ⟨ckX9_givenMany, fun _ h => absurd h List.not_mem_nil⟩⟩⟩⟩⟩⟩⟩⟩⟩⟩⟩⟩⟩⟩⟩⟩⟩⟩⟩⟩⟩⟩⟩⟩⟩⟩⟩⟩⟩⟩⟩⟩⟩⟩⟩⟩⟩⟩⟩⟩⟩⟩⟩⟩⟩⟩⟩⟩⟩⟩⟩⟩⟩⟩⟩
theorem ckL_0 : (tL_law[0]?).all (fun r => am_chkR "NamesOnLoanLaw" code 4 0 r) = true := by decide +kernel
theorem ckL_1 : (tL_law[1]?).all (fun r => am_chkR "NamesOnLoanLaw" code 4 32 r) = true := by decide +kernel
theorem ckL_2 : (tL_law[2]?).all (fun r => am_chkR "NamesOnLoanLaw" code 4 64 r) = true := by decide +kernel
theorem ckL_3 : (tL_law[3]?).all (fun r => am_chkR "NamesOnLoanLaw" code 4 96 r) = true := by decide +kernel
theorem ckL_4 : (tL_law[4]?).all (fun r => am_chkR "NamesOnLoanLaw" code 4 128 r) = true := by decide +kernel
theorem ckL_5 : (tL_law[5]?).all (fun r => am_chkR "NamesOnLoanLaw" code 4 160 r) = true := by decide +kernel
theorem ckL_6 : (tL_law[6]?).all (fun r => am_chkR "NamesOnLoanLaw" code 4 192 r) = true := by decide +kernel
theorem ckL_7 : (tL_law[7]?).all (fun r => am_chkR "NamesOnLoanLaw" code 4 224 r) = true := by decide +kernel
theorem ckL_8 : (tL_law[8]?).all (fun r => am_chkR "NamesOnLoanLaw" code 4 256 r) = true := by decide +kernel
theorem ckL_9 : (tL_law[9]?).all (fun r => am_chkR "NamesOnLoanLaw" code 4 288 r) = true := by decide +kernel
theorem ckL_10 : (tL_law[10]?).all (fun r => am_chkR "NamesOnLoanLaw" code 4 320 r) = true := by decide +kernel
theorem ckL_11 : (tL_law[11]?).all (fun r => am_chkR "NamesOnLoanLaw" code 4 352 r) = true := by decide +kernel
theorem ckL_12 : (tL_law[12]?).all (fun r => am_chkR "NamesOnLoanLaw" code 4 384 r) = true := by decide +kernel
theorem ckL_13 : (tL_law[13]?).all (fun r => am_chkR "NamesOnLoanLaw" code 4 416 r) = true := by decide +kernel
theorem ckL_14 : (tL_law[14]?).all (fun r => am_chkR "NamesOnLoanLaw" code 4 448 r) = true := by decide +kernel
theorem ckL_15 : (tL_law[15]?).all (fun r => am_chkR "NamesOnLoanLaw" code 4 480 r) = true := by decide +kernel
theorem ckL_16 : (tL_law[16]?).all (fun r => am_chkR "NamesOnLoanLaw" code 4 512 r) = true := by decide +kernel
theorem ckL_17 : (tL_law[17]?).all (fun r => am_chkR "NamesOnLoanLaw" code 4 544 r) = true := by decide +kernel
theorem ckL_18 : (tL_law[18]?).all (fun r => am_chkR "NamesOnLoanLaw" code 4 576 r) = true := by decide +kernel
theorem ckL_19 : (tL_law[19]?).all (fun r => am_chkR "NamesOnLoanLaw" code 4 608 r) = true := by decide +kernel
theorem ckL_20 : (tL_law[20]?).all (fun r => am_chkR "NamesOnLoanLaw" code 4 640 r) = true := by decide +kernel
theorem ckL_21 : (tL_law[21]?).all (fun r => am_chkR "NamesOnLoanLaw" code 4 672 r) = true := by decide +kernel
theorem ckL_22 : (tL_law[22]?).all (fun r => am_chkR "NamesOnLoanLaw" code 4 704 r) = true := by decide +kernel
theorem ckL_23 : (tL_law[23]?).all (fun r => am_chkR "NamesOnLoanLaw" code 4 736 r) = true := by decide +kernel
theorem ckL_24 : (tL_law[24]?).all (fun r => am_chkR "NamesOnLoanLaw" code 4 768 r) = true := by decide +kernel
theorem ckL_25 : (tL_law[25]?).all (fun r => am_chkR "NamesOnLoanLaw" code 4 800 r) = true := by decide +kernel
theorem ckL_26 : (tL_law[26]?).all (fun r => am_chkR "NamesOnLoanLaw" code 4 832 r) = true := by decide +kernel
theorem ckL_27 : (tL_law[27]?).all (fun r => am_chkR "NamesOnLoanLaw" code 4 864 r) = true := by decide +kernel
theorem ckL_28 : (tL_law[28]?).all (fun r => am_chkR "NamesOnLoanLaw" code 4 896 r) = true := by decide +kernel
theorem ckL_29 : (tL_law[29]?).all (fun r => am_chkR "NamesOnLoanLaw" code 4 928 r) = true := by decide +kernel
theorem ckL_30 : (tL_law[30]?).all (fun r => am_chkR "NamesOnLoanLaw" code 4 960 r) = true := by decide +kernel
theorem ckL_31 : (tL_law[31]?).all (fun r => am_chkR "NamesOnLoanLaw" code 4 992 r) = true := by decide +kernel
theorem ckL_32 : (tL_law[32]?).all (fun r => am_chkR "NamesOnLoanLaw" code 4 1024 r) = true := by decide +kernel
theorem ckL_33 : (tL_law[33]?).all (fun r => am_chkR "NamesOnLoanLaw" code 4 1056 r) = true := by decide +kernel
theorem ckL_34 : (tL_law[34]?).all (fun r => am_chkR "NamesOnLoanLaw" code 4 1088 r) = true := by decide +kernel
theorem ckL_35 : (tL_law[35]?).all (fun r => am_chkR "NamesOnLoanLaw" code 4 1120 r) = true := by decide +kernel
theorem ckL_36 : (tL_law[36]?).all (fun r => am_chkR "NamesOnLoanLaw" code 4 1152 r) = true := by decide +kernel
theorem ckL_37 : (tL_law[37]?).all (fun r => am_chkR "NamesOnLoanLaw" code 4 1184 r) = true := by decide +kernel
theorem ckL_38 : (tL_law[38]?).all (fun r => am_chkR "NamesOnLoanLaw" code 4 1216 r) = true := by decide +kernel
theorem ckL_39 : (tL_law[39]?).all (fun r => am_chkR "NamesOnLoanLaw" code 4 1248 r) = true := by decide +kernel
theorem ckL_40 : (tL_law[40]?).all (fun r => am_chkR "NamesOnLoanLaw" code 4 1280 r) = true := by decide +kernel
theorem ckL_41 : (tL_law[41]?).all (fun r => am_chkR "NamesOnLoanLaw" code 4 1312 r) = true := by decide +kernel
theorem ckL_42 : (tL_law[42]?).all (fun r => am_chkR "NamesOnLoanLaw" code 4 1344 r) = true := by decide +kernel
theorem ckL_43 : (tL_law[43]?).all (fun r => am_chkR "NamesOnLoanLaw" code 4 1376 r) = true := by decide +kernel
theorem ckL_44 : (tL_law[44]?).all (fun r => am_chkR "NamesOnLoanLaw" code 4 1408 r) = true := by decide +kernel
theorem ckL_45 : (tL_law[45]?).all (fun r => am_chkR "NamesOnLoanLaw" code 4 1440 r) = true := by decide +kernel
theorem ckL_46 : (tL_law[46]?).all (fun r => am_chkR "NamesOnLoanLaw" code 4 1472 r) = true := by decide +kernel
theorem am_okA {y : Nat} {I : am_Mi} {T : am_T} (hI : am_ms[y]? = some I) (hT : am_tb[y]? = some T) : am_all (I, T) = true := by
  have e : am_ms.zip am_tb = am_ms0.zip am_tb0 ++ (am_ms1.zip am_tb1 ++ (am_ms2.zip am_tb2 ++ am_ms3.zip am_tb3)) := by
    unfold am_ms am_tb
    rw [List.zip_append (by decide +kernel), List.zip_append (by decide +kernel), List.zip_append (by decide +kernel)]
  have hz : (am_ms.zip am_tb)[y]? = some (I, T) := List.getElem?_zip_eq_some.mpr ⟨hI, hT⟩
  have hm := List.mem_of_getElem? hz
  rw [e] at hm
  rcases List.mem_append.mp hm with h | hm
  · exact ck_c0 _ h
  rcases List.mem_append.mp hm with h | hm
  · exact ck_c1 _ h
  rcases List.mem_append.mp hm with h | h
  · exact ck_c2 _ h
  · exact ck_c3 _ h
theorem am_okM {y : Nat} {I : am_Mi} (hI : am_ms[y]? = some I) : am_mok I = true := by
  have hl : am_ms.length = am_tb.length := by decide +kernel
  have hy : y < am_tb.length := by rw [← hl]; exact (List.getElem?_eq_some_iff.mp hI).1
  have := am_okA hI (List.getElem?_eq_getElem hy)
  unfold am_all at this
  rw [Bool.and_eq_true] at this
  exact this.1
theorem ckL_row {own : String} {bytes : ByteArray} {maxL : Nat} {x : am_I} : ∀ (r : List (Option am_I)) (pc i : Nat), am_chkR own bytes maxL pc r = true → r[i]? = some (some x) → am_chk own bytes maxL (pc + i) x = true := by
  intro r
  induction r with
  | nil => intro pc i _ h; cases h
  | cons o r ih =>
    intro pc i h hi
    simp only [am_chkR, Bool.and_eq_true] at h
    cases i with
    | zero =>
      cases hi
      exact h.1
    | succ i =>
      have := ih (pc + 1) i h.2 hi
      rwa [show pc + 1 + i = pc + (i + 1) by omega] at this
theorem am_okL (pc : Nat) (x : am_I) (hx : am_at tL_law pc = some x) : am_chk "NamesOnLoanLaw" code 4 pc x = true := by
  have key : ∀ (j : Nat), (tL_law[j]?).all (fun r => am_chkR "NamesOnLoanLaw" code 4 (32 * j) r) = true := by
    intro j
    by_cases hj : j < 47
    · rcases (show j = 0 ∨ j = 1 ∨ j = 2 ∨ j = 3 ∨ j = 4 ∨ j = 5 ∨ j = 6 ∨ j = 7 ∨ j = 8 ∨ j = 9 ∨ j = 10 ∨ j = 11 ∨ j = 12 ∨ j = 13 ∨ j = 14 ∨ j = 15 ∨ j = 16 ∨ j = 17 ∨ j = 18 ∨ j = 19 ∨ j = 20 ∨ j = 21 ∨ j = 22 ∨ j = 23 ∨ j = 24 ∨ j = 25 ∨ j = 26 ∨ j = 27 ∨ j = 28 ∨ j = 29 ∨ j = 30 ∨ j = 31 ∨ j = 32 ∨ j = 33 ∨ j = 34 ∨ j = 35 ∨ j = 36 ∨ j = 37 ∨ j = 38 ∨ j = 39 ∨ j = 40 ∨ j = 41 ∨ j = 42 ∨ j = 43 ∨ j = 44 ∨ j = 45 ∨ j = 46 by omega) with rfl | rfl | rfl | rfl | rfl | rfl | rfl | rfl | rfl | rfl | rfl | rfl | rfl | rfl | rfl | rfl | rfl | rfl | rfl | rfl | rfl | rfl | rfl | rfl | rfl | rfl | rfl | rfl | rfl | rfl | rfl | rfl | rfl | rfl | rfl | rfl | rfl | rfl | rfl | rfl | rfl | rfl | rfl | rfl | rfl | rfl | rfl
      · exact ckL_0
      · exact ckL_1
      · exact ckL_2
      · exact ckL_3
      · exact ckL_4
      · exact ckL_5
      · exact ckL_6
      · exact ckL_7
      · exact ckL_8
      · exact ckL_9
      · exact ckL_10
      · exact ckL_11
      · exact ckL_12
      · exact ckL_13
      · exact ckL_14
      · exact ckL_15
      · exact ckL_16
      · exact ckL_17
      · exact ckL_18
      · exact ckL_19
      · exact ckL_20
      · exact ckL_21
      · exact ckL_22
      · exact ckL_23
      · exact ckL_24
      · exact ckL_25
      · exact ckL_26
      · exact ckL_27
      · exact ckL_28
      · exact ckL_29
      · exact ckL_30
      · exact ckL_31
      · exact ckL_32
      · exact ckL_33
      · exact ckL_34
      · exact ckL_35
      · exact ckL_36
      · exact ckL_37
      · exact ckL_38
      · exact ckL_39
      · exact ckL_40
      · exact ckL_41
      · exact ckL_42
      · exact ckL_43
      · exact ckL_44
      · exact ckL_45
      · exact ckL_46
    · have : tL_law[j]? = none := List.getElem?_eq_none (by have : tL_law.length = 47 := (by decide +kernel); omega)
      rw [this]
      rfl
  unfold am_at at hx
  have hk := key (pc / 32)
  cases hr : tL_law[pc / 32]? with
  | none => rw [hr] at hx; simp at hx
  | some row =>
    rw [hr] at hx hk
    simp only [Option.getD_some, Option.all_some] at hx hk
    cases ho : row[pc % 32]? with
    | none => rw [ho] at hx; cases hx
    | some o =>
      rw [ho] at hx
      simp only [Option.getD_some] at hx
      subst hx
      have h2 := ckL_row row _ (pc % 32) hk ho
      rwa [show 32 * (pc / 32) + pc % 32 = pc by omega] at h2
