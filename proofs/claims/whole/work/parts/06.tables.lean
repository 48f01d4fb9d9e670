/-! the methods: name, code, locals, result, class, cells that it makes; the place of its word among the tables', of instanceMethod or static, of selects, of initialized; 0 one of an object, 1 static; how many arguments -/
def mtL_0 : List (MethodName × ByteArray × Nat × Option FieldType × Nat × Nat) := [(yX0_init, cX0_init, 2, none, 0, 10), (yX0_addDoing, cX0_addDoing, 4, (some .int), 0, 0), (yX0_addReport, cX0_addReport, 5, (some .int), 0, 0), (yX0_addFinding, cX0_addFinding, 4, (some .int), 0, 0), (yX0_takeReportBack, cX0_takeReportBack, 2, (some .int), 0, 0), (yX0_isLet, cX0_isLet, 4, (some .boolean), 0, 0), (yX0_allLeft, cX0_allLeft, 3, (some .int), 0, 0), (yX0_worstOf, cX0_worstOf, 7, (some .int), 0, 0), (yX0_bestLook, cX0_bestLook, 8, (some .int), 0, 0), (yX0_allStanding, cX0_allStanding, 4, (some .int), 0, 0), (yX0_isLetByAll, cX0_isLetByAll, 4, (some .boolean), 0, 0), (yX0_isNoticed, cX0_isNoticed, 5, (some .boolean), 0, 0), (yX1_init, cX1_init, 4, none, 1, 1), (yX1_valueOf, cX1_valueOf, 8, (some .int), 1, 0), (yX1_allBreaches, cX1_allBreaches, 5, (some .int), 1, 0), (yX1_knownBreaches, cX1_knownBreaches, 10, (some .int), 1, 0), (yX1_allAstray, cX1_allAstray, 5, (some .int), 1, 0), (yX1_tellName, cX1_tellName, 3, none, 1, 0), (yX1_signedFar, cX1_signedFar, 4, (some .int), 1, 0), (yX1_isOnOtherSide, cX1_isOnOtherSide, 3, (some .boolean), 1, 0), (yX2_init, cX2_init, 1, none, 2, 1), (yX2_isUnder, cX2_isUnder, 4, (some .boolean), 2, 0), (yX2_sightOf, cX2_sightOf, 5, (some .int), 2, 0), (yX2_become, cX2_become, 5, none, 2, 0), (yX2_walkBy, cX2_walkBy, 2, (some .int), 2, 0), (yX2_cellIn, cX2_cellIn, 2, (some .int), 2, 0), (yX3_init, cX3_init, 3, none, 3, 33), (yX3_add, cX3_add, 5, (some .int), 3, 0), (yX3_has, cX3_has, 2, (some .boolean), 3, 0), (yX3_isOfArmy, cX3_isOfArmy, 2, (some .boolean), 3, 0), (yX3_allHeld, cX3_allHeld, 3, (some .int), 3, 0), (yX3_sightIn, cX3_sightIn, 3, (some .int), 3, 0), (yX3_canSee, cX3_canSee, 5, (some .boolean), 3, 0), (yX3_seenBy, cX3_seenBy, 3, (some .long), 3, 0), (yX3_seenBySide, cX3_seenBySide, 6, (some .long), 3, 0), (yX3_canHear, cX3_canHear, 5, (some .boolean), 3, 0), (yX4_init, cX4_init, 1, none, 4, 10), (yX4_addPermit, cX4_addPermit, 6, (some .int), 4, 0), (yX4_leastPermit, cX4_leastPermit, 7, (some .int), 4, 0), (yX4_addProtest, cX4_addProtest, 4, (some .int), 4, 0)]
def mtL_1 : List (MethodName × ByteArray × Nat × Option FieldType × Nat × Nat) := [(yX4_hasProtest, cX4_hasProtest, 2, (some .boolean), 4, 0), (yX4_answerProtest, cX4_answerProtest, 3, (some .int), 4, 0), (yX4_allLate, cX4_allLate, 5, (some .int), 4, 0), (yX4_leastBlamer, cX4_leastBlamer, 3, (some .int), 4, 0), (yX4_putListed, cX4_putListed, 7, (some .int), 4, 0), (yX5_init, cX5_init, 3, none, 5, 4), (yX5_addCell, cX5_addCell, 2, (some .int), 5, 0), (yX5_bestPosts, cX5_bestPosts, 7, (some .int), 5, 0), (yX5_seenFromAll, cX5_seenFromAll, 5, (some .long), 5, 0), (yX5_lookFromAll, cX5_lookFromAll, 3, none, 5, 0), (yX5_strengthOf, cX5_strengthOf, 4, (some .int), 5, 0), (yX5_canDraw, cX5_canDraw, 3, (some .boolean), 5, 0), (yX5_drawnAt, cX5_drawnAt, 7, (some .int), 5, 0), (yX5_isGunHere, cX5_isGunHere, 2, (some .boolean), 5, 0), (yX5_tellGuns, cX5_tellGuns, 3, none, 5, 0), (yX5_openSets, cX5_openSets, 6, none, 5, 0), (yX5_leadOf, cX5_leadOf, 5, (some .int), 5, 0), (yX5_nextDrawn, cX5_nextDrawn, 3, (some .int), 5, 0), (yX6_init, cX6_init, 3, none, 6, 2), (yX6_isName, cX6_isName, 1, (some .boolean), 6, 0), (yX6_read, cX6_read, 4, (some .int), 6, 0), (yX6_splitTape, cX6_splitTape, 4, none, 6, 0), (yX6_endOf, cX6_endOf, 3, (some .int), 6, 0), (yX6_tokenOf, cX6_tokenOf, 6, (some .int), 6, 0), (yX6_wordOf, cX6_wordOf, 3, (some .int), 6, 0), (yX6_isSpelt, cX6_isSpelt, 5, (some .boolean), 6, 0), (yX6_numberAt, cX6_numberAt, 4, (some .int), 6, 0), (yX6_isLetter, cX6_isLetter, 1, (some .boolean), 6, 0), (yX6_isDigit, cX6_isDigit, 1, (some .boolean), 6, 0), (yX6_readPart, cX6_readPart, 3, none, 6, 0), (yX6_readOr, cX6_readOr, 3, none, 6, 0), (yX6_readAnd, cX6_readAnd, 3, none, 6, 0), (yX6_readNot, cX6_readNot, 2, none, 6, 0), (yX6_readComparison, cX6_readComparison, 3, none, 6, 0), (yX6_readSum, cX6_readSum, 4, none, 6, 0), (yX6_readTerm, cX6_readTerm, 3, none, 6, 0), (yX6_readOne, cX6_readOne, 3, none, 6, 0), (yX6_isNext, cX6_isNext, 2, (some .boolean), 6, 0), (yX6_expect, cX6_expect, 2, none, 6, 0), (yX6_skipToken, cX6_skipToken, 1, none, 6, 0)]
def mtL_2 : List (MethodName × ByteArray × Nat × Option FieldType × Nat × Nat) := [(yX6_fail, cX6_fail, 1, none, 6, 0), (yX6_write, cX6_write, 2, none, 6, 0), (yX7_init, cX7_init, 1, none, 7, 1), (yX7_isMissing, cX7_isMissing, 1, (some .boolean), 7, 0), (yX7_has, cX7_has, 2, (some .boolean), 7, 0), (yX7_hasRun, cX7_hasRun, 3, (some .boolean), 7, 0), (yX7_become, cX7_become, 3, (some .int), 7, 0), (yX7_put, cX7_put, 3, (some .int), 7, 0), (yX8_init, cX8_init, 3, none, 8, 0), (yX8_shotsBehind, cX8_shotsBehind, 7, (some .int), 8, 0), (yX8_leastCalm, cX8_leastCalm, 11, (some .int), 8, 0), (yX8_calledForth, cX8_calledForth, 8, (some .int), 8, 0), (yX8_heardBy, cX8_heardBy, 7, (some .int), 8, 0), (yX9_init, cX9_init, 2, none, 9, 19), (yX9_has, cX9_has, 2, (some .boolean), 9, 0), (yX9_feedTape, cX9_feedTape, 5, (some .int), 9, 0), (yX9_readTape, cX9_readTape, 3, (some .int), 9, 0), (yX9_valueOf, cX9_valueOf, 8, (some .int), 9, 0), (yX9_ofOne, cX9_ofOne, 2, (some .int), 9, 0), (yX9_ofTwo, cX9_ofTwo, 3, (some .int), 9, 0), (yX10_init, cX10_init, 1, none, 10, 2), (yX10_sideOf, cX10_sideOf, 2, (some .int), 10, 0), (yX10_farOf, cX10_farOf, 3, (some .int), 10, 0), (yX10_isStrip, cX10_isStrip, 2, (some .boolean), 10, 0), (yX10_sightFrom, cX10_sightFrom, 4, (some .int), 10, 0), (yX10_canSee, cX10_canSee, 12, (some .boolean), 10, 0), (yX10_seenFrom, cX10_seenFrom, 6, (some .long), 10, 0), (yX11_init, cX11_init, 1, none, 11, 96), (yX11_height, cX11_height, 4, (some .int), 11, 0), (yX11_line, cX11_line, 4, (some .int), 11, 0), (yX11_set, cX11_set, 4, (some .int), 11, 0), (yX11_cellTold, cX11_cellTold, 3, (some .int), 11, 0), (yX11_mark, cX11_mark, 5, (some .int), 11, 0), (yX11_walk, cX11_walk, 4, (some .int), 11, 0), (yX11_gone, cX11_gone, 5, (some .int), 11, 0), (yX11_markTold, cX11_markTold, 4, (some .int), 11, 0), (yX11_at, cX11_at, 3, (some .int), 11, 0), (yX11_sight, cX11_sight, 3, (some .int), 11, 0), (yX11_sees, cX11_sees, 3, (some .long), 11, 0), (yX11_view, cX11_view, 3, (some .long), 11, 0)]
def mtL_3 : List (MethodName × ByteArray × Nat × Option FieldType × Nat × Nat) := [(yX11_feed, cX11_feed, 4, (some .int), 11, 0), (yX11_text, cX11_text, 1, (some .int), 11, 0), (yX11_force, cX11_force, 4, (some .int), 11, 0), (yX11_says, cX11_says, 5, (some .long), 11, 0), (yX11_breaches, cX11_breaches, 3, (some .int), 11, 0), (yX11_astray, cX11_astray, 2, (some .int), 11, 0), (yX11_permit, cX11_permit, 6, (some .int), 11, 0), (yX11_may, cX11_may, 4, (some .int), 11, 0), (yX11_doing, cX11_doing, 4, (some .int), 11, 0), (yX11_report, cX11_report, 5, (some .int), 11, 0), (yX11_takeBack, cX11_takeBack, 2, (some .int), 11, 0), (yX11_lets, cX11_lets, 3, (some .int), 11, 0), (yX11_left, cX11_left, 1, (some .int), 11, 0), (yX11_worst, cX11_worst, 4, (some .int), 11, 0), (yX11_look, cX11_look, 2, (some .int), 11, 0), (yX11_finding, cX11_finding, 4, (some .int), 11, 0), (yX11_standing, cX11_standing, 1, (some .int), 11, 0), (yX11_hold, cX11_hold, 5, (some .int), 11, 0), (yX11_shots, cX11_shots, 4, (some .int), 11, 0), (yX11_calm, cX11_calm, 5, (some .int), 11, 0), (yX11_list, cX11_list, 2, (some .int), 11, 0), (yX11_cover, cX11_cover, 5, (some .int), 11, 0), (yX11_drawBack, cX11_drawBack, 4, (some .int), 11, 0), (yX11_strength, cX11_strength, 2, (some .int), 11, 0), (yX11_protest, cX11_protest, 4, (some .int), 11, 0), (yX11_answer, cX11_answer, 3, (some .int), 11, 0), (yX11_late, cX11_late, 2, (some .int), 11, 0), (yX11_blame, cX11_blame, 2, (some .int), 11, 0), (yX11_listed, cX11_listed, 4, (some .int), 11, 0), (yX11_alone, cX11_alone, 2, (some .long), 11, 0), (yX11_count, cX11_count, 2, (some .int), 11, 0), (yX11_sheet, cX11_sheet, 4, (some .int), 11, 0), (yX11_cell, cX11_cell, 5, (some .int), 11, 0), (yX11_copy, cX11_copy, 8, (some .int), 11, 0), (yX11_heights, cX11_heights, 7, (some .int), 11, 0), (yX11_taken, cX11_taken, 4, (some .int), 11, 0), (yX11_tellHeights, cX11_tellHeights, 9, (some .int), 11, 0), (yX11_isWithin, cX11_isWithin, 3, (some .boolean), 11, 0), (yX11_isCell, cX11_isCell, 1, (some .boolean), 11, 0), (yX11_isHour, cX11_isHour, 1, (some .boolean), 11, 0)]
def mtL_4 : List (MethodName × ByteArray × Nat × Option FieldType × Nat × Nat) := [(yX11_isSide, cX11_isSide, 1, (some .boolean), 11, 0), (yX11_isArmy, cX11_isArmy, 1, (some .boolean), 11, 0), (yX11_isBit, cX11_isBit, 1, (some .boolean), 11, 0), (yX11_isKind, cX11_isKind, 1, (some .boolean), 11, 0), (yX11_isSheet, cX11_isSheet, 1, (some .boolean), 11, 0), (yX11_isSetOf, cX11_isSetOf, 2, (some .boolean), 11, 0), (yX11_isIn, cX11_isIn, 2, (some .boolean), 11, 0), (yX11_bit, cX11_bit, 1, (some .int), 11, 0), (yX11_apartOf, cX11_apartOf, 2, (some .int), 11, 0), (yX11_isNight, cX11_isNight, 2, (some .boolean), 11, 0), (yX12_in, cX12_in, 4, (some .boolean), 12, 0), (yX12_init, cX12_init, 2, none, 12, 47), (yX12_isCell, cX12_isCell, 2, (some .boolean), 12, 0), (yX12_isHour, cX12_isHour, 2, (some .boolean), 12, 0), (yX12_height, cX12_height, 4, (some .int), 12, 0), (yX12_line, cX12_line, 4, (some .int), 12, 0), (yX12_set, cX12_set, 4, (some .int), 12, 0), (yX12_sideAt, cX12_sideAt, 2, (some .int), 12, 0), (yX12_farAt, cX12_farAt, 2, (some .int), 12, 0), (yX12_cellTold, cX12_cellTold, 3, (some .int), 12, 0), (yX12_abs, cX12_abs, 2, (some .int), 12, 0), (yX12_apart, cX12_apart, 5, (some .int), 12, 0), (yX12_isNight, cX12_isNight, 2, (some .boolean), 12, 0), (yX12_isMark, cX12_isMark, 2, (some .boolean), 12, 0), (yX12_mark, cX12_mark, 5, (some .int), 12, 0), (yX12_isUnder, cX12_isUnder, 3, (some .boolean), 12, 0), (yX12_walk, cX12_walk, 3, (some .int), 12, 0), (yX12_gone, cX12_gone, 4, (some .int), 12, 0), (yX12_earOf, cX12_earOf, 2, (some .int), 12, 0), (yX12_markTold, cX12_markTold, 3, (some .int), 12, 0), (yX12_cellOf, cX12_cellOf, 3, (some .int), 12, 0), (yX12_at, cX12_at, 3, (some .int), 12, 0), (yX12_sightOf, cX12_sightOf, 6, (some .int), 12, 0), (yX12_sight, cX12_sight, 3, (some .int), 12, 0), (yX12_isClear, cX12_isClear, 8, (some .boolean), 12, 0), (yX12_seenFrom, cX12_seenFrom, 8, (some .long), 12, 0), (yX12_seenBy, cX12_seenBy, 3, (some .long), 12, 0), (yX12_sees, cX12_sees, 3, (some .long), 12, 0), (yX12_viewOf, cX12_viewOf, 6, (some .long), 12, 0), (yX12_view, cX12_view, 3, (some .long), 12, 0)]
def mtL_5 : List (MethodName × ByteArray × Nat × Option FieldType × Nat × Nat) := [(yX12_ruleZero, cX12_ruleZero, 1, none, 12, 0), (yX12_feed, cX12_feed, 5, (some .int), 12, 0), (yX12_isLetter, cX12_isLetter, 2, (some .boolean), 12, 0), (yX12_isDigit, cX12_isDigit, 2, (some .boolean), 12, 0), (yX12_isWord, cX12_isWord, 6, (some .boolean), 12, 0), (yX12_wordToken, cX12_wordToken, 1, none, 12, 0), (yX12_next, cX12_next, 2, none, 12, 0), (yX12_isKey, cX12_isKey, 2, (some .boolean), 12, 0), (yX12_isSign, cX12_isSign, 2, (some .boolean), 12, 0), (yX12_put, cX12_put, 2, none, 12, 0), (yX12_rank, cX12_rank, 2, (some .int), 12, 0), (yX12_settle, cX12_settle, 2, none, 12, 0), (yX12_hold, cX12_hold, 2, none, 12, 0), (yX12_ahead, cX12_ahead, 2, (some .boolean), 12, 0), (yX12_signOf, cX12_signOf, 1, (some .int), 12, 0), (yX12_part, cX12_part, 4, (some .boolean), 12, 0), (yX12_isText, cX12_isText, 2, (some .boolean), 12, 0), (yX12_text, cX12_text, 3, (some .int), 12, 0), (yX12_force, cX12_force, 4, (some .int), 12, 0), (yX12_both, cX12_both, 4, (some .int), 12, 0), (yX12_work, cX12_work, 7, (some .int), 12, 0), (yX12_ask, cX12_ask, 6, (some .int), 12, 0), (yX12_says, cX12_says, 5, (some .long), 12, 0), (yX12_breaches, cX12_breaches, 7, (some .int), 12, 0), (yX12_astray, cX12_astray, 4, (some .int), 12, 0), (yX12_permit, cX12_permit, 6, (some .int), 12, 0), (yX12_may, cX12_may, 5, (some .int), 12, 0), (yX12_isDoing, cX12_isDoing, 2, (some .boolean), 12, 0), (yX12_doing, cX12_doing, 4, (some .int), 12, 0), (yX12_loud, cX12_loud, 2, (some .int), 12, 0), (yX12_knows, cX12_knows, 5, (some .boolean), 12, 0), (yX12_report, cX12_report, 5, (some .int), 12, 0), (yX12_takeBack, cX12_takeBack, 4, (some .int), 12, 0), (yX12_isLet, cX12_isLet, 3, (some .boolean), 12, 0), (yX12_lets, cX12_lets, 3, (some .int), 12, 0), (yX12_left, cX12_left, 5, (some .int), 12, 0), (yX12_worstOf, cX12_worstOf, 8, (some .int), 12, 0), (yX12_worst, cX12_worst, 4, (some .int), 12, 0), (yX12_look, cX12_look, 7, (some .int), 12, 0), (yX12_finding, cX12_finding, 4, (some .int), 12, 0)]
def mtL_6 : List (MethodName × ByteArray × Nat × Option FieldType × Nat × Nat) := [(yX12_standing, cX12_standing, 5, (some .int), 12, 0), (yX12_hold_, cX12_hold_, 4, (some .int), 12, 0), (yX12_shooting, cX12_shooting, 11, (some .int), 12, 0), (yX12_canShoot, cX12_canShoot, 3, (some .boolean), 12, 0), (yX12_shots, cX12_shots, 4, (some .int), 12, 0), (yX12_ones, cX12_ones, 4, (some .int), 12, 0), (yX12_calm, cX12_calm, 7, (some .int), 12, 0), (yX12_list, cX12_list, 2, (some .int), 12, 0), (yX12_bitsOf, cX12_bitsOf, 6, (some .int), 12, 0), (yX12_coveredBy, cX12_coveredBy, 5, (some .int), 12, 0), (yX12_cover, cX12_cover, 6, (some .int), 12, 0), (yX12_strengthOf, cX12_strengthOf, 5, (some .int), 12, 0), (yX12_strength, cX12_strength, 2, (some .int), 12, 0), (yX12_marksOf, cX12_marksOf, 4, (some .int), 12, 0), (yX12_drawBack, cX12_drawBack, 9, (some .int), 12, 0), (yX12_protest, cX12_protest, 4, (some .int), 12, 0), (yX12_answer, cX12_answer, 3, (some .int), 12, 0), (yX12_late, cX12_late, 4, (some .int), 12, 0), (yX12_blame, cX12_blame, 3, (some .int), 12, 0), (yX12_listed, cX12_listed, 5, (some .int), 12, 0), (yX12_alone, cX12_alone, 2, (some .long), 12, 0), (yX12_count, cX12_count, 2, (some .int), 12, 0), (yX12_isSheet, cX12_isSheet, 2, (some .boolean), 12, 0), (yX12_sheet, cX12_sheet, 5, (some .int), 12, 0), (yX12_cell, cX12_cell, 4, (some .int), 12, 0), (yX12_copy, cX12_copy, 7, (some .int), 12, 0), (yX12_heights, cX12_heights, 8, (some .int), 12, 0), (yX12_taken, cX12_taken, 3, (some .int), 12, 0), (yJ6_bitCount_0f7a4, cJ6_bitCount_0f7a4, 1, (some .int), 14, 0), (yJ13_bitCount_95d88, cJ13_bitCount_95d88, 2, (some .int), 15, 0), (yJ9_abs_0f7a4, cJ9_abs_0f7a4, 1, (some .int), 16, 0), (yJ9_max_7cf53, cJ9_max_7cf53, 2, (some .int), 16, 0), (yJ9_min_7cf53, cJ9_min_7cf53, 2, (some .int), 16, 0), (yJ0_length_8abf5, cJ0_length_8abf5, 1, (some .int), 18, 0), (yJ0_charAt_5068e, cJ0_charAt_5068e, 2, (some .char), 18, 0), (yJ0_coder_7d493, cJ0_coder_7d493, 1, (some .byte), 18, 0), (yJ0_isLatin1_aae02, cJ0_isLatin1_aae02, 1, (some .boolean), 18, 0), (yJ0_checkIndex_df160, cJ0_checkIndex_df160, 2, none, 18, 0), (yJ1_charAt_3b067, cJ1_charAt_3b067, 2, (some .char), 19, 0), (yJ2_getChar_3b067, cJ2_getChar_3b067, 2, (some .char), 20, 0)]
def mtL_7 : List (MethodName × ByteArray × Nat × Option FieldType × Nat × Nat) := [(yJ2_length_9d52b, cJ2_length_9d52b, 1, (some .int), 20, 0), (yJ2_charAt_3b067, cJ2_charAt_3b067, 2, (some .char), 20, 0), (yJ2_checkIndex_2214a, cJ2_checkIndex_2214a, 2, none, 20, 0), (yJ7_fill_53178, cJ7_fill_53178, 4, none, 17, 0), (yJ3_checkIndex_8e157, cJ3_checkIndex_8e157, 3, (some .int), 21, 0), (yL_law, cL_law, 4, (some .boolean), 13, 0)]
def mtL : List (MethodName × ByteArray × Nat × Option FieldType × Nat × Nat) := mtL_0 ++ (mtL_1 ++ (mtL_2 ++ (mtL_3 ++ (mtL_4 ++ (mtL_5 ++ (mtL_6 ++ (mtL_7)))))))
def mpL_0 : List (Nat × Nat × Nat × Nat × Nat × Nat) := [(475, 474, 0, 96, 0, 1), (928, 926, 927, 96, 0, 3), (936, 934, 935, 96, 0, 4), (1022, 1020, 1021, 96, 0, 3), (944, 942, 943, 96, 0, 1), (959, 957, 958, 96, 0, 2), (987, 985, 986, 96, 0, 0), (1001, 999, 1000, 96, 0, 4), (1010, 1008, 1009, 96, 0, 2), (1030, 1028, 1029, 96, 0, 0), (991, 990, 23, 96, 0, 2), (963, 962, 22, 96, 0, 4), (456, 455, 0, 95, 0, 3), (846, 844, 845, 95, 0, 4), (886, 884, 885, 95, 0, 1), (891, 889, 890, 95, 0, 2), (904, 902, 903, 95, 0, 1), (851, 850, 19, 95, 0, 2), (855, 854, 20, 95, 0, 2), (860, 859, 21, 95, 0, 2), (151, 150, 0, 87, 0, 0), (735, 734, 0, 87, 1, 2), (782, 781, 0, 87, 1, 3), (720, 718, 719, 87, 0, 4), (741, 739, 740, 87, 0, 1), (763, 761, 762, 87, 0, 1), (144, 143, 0, 86, 0, 1), (716, 714, 715, 86, 0, 4), (731, 729, 730, 86, 0, 1), (1042, 1040, 1041, 86, 0, 1), (1048, 1046, 1047, 86, 0, 0), (771, 769, 770, 86, 0, 2), (978, 976, 977, 86, 0, 3), (794, 792, 793, 86, 0, 2), (814, 812, 813, 86, 0, 2), (969, 967, 968, 86, 0, 4), (577, 576, 0, 99, 0, 0), (912, 910, 911, 99, 0, 5), (920, 918, 919, 99, 0, 3), (1169, 1167, 1168, 99, 0, 3), (1177, 1175, 1176, 99, 0, 1), (1182, 1180, 1181, 99, 0, 2), (1190, 1188, 1189, 99, 0, 1), (1198, 1196, 1197, 99, 0, 1), (1206, 1204, 1205, 99, 0, 3), (544, 543, 0, 98, 0, 2), (1086, 1084, 1085, 98, 0, 1), (1094, 1092, 1093, 98, 0, 2), (1105, 1103, 1104, 98, 0, 1), (1098, 1097, 26, 98, 0, 1), (1145, 1143, 1144, 98, 0, 1), (1122, 1120, 1121, 98, 0, 1), (1133, 1131, 1132, 98, 0, 3), (1127, 1126, 27, 98, 0, 1), (1137, 1136, 28, 98, 0, 1), (1141, 1140, 29, 98, 0, 1), (1149, 1148, 30, 98, 0, 1), (1154, 1153, 31, 98, 0, 1), (233, 232, 0, 89, 0, 2), (421, 420, 0, 89, 1, 1), (322, 320, 321, 89, 0, 3), (327, 326, 0, 89, 0, 0), (331, 330, 1, 89, 0, 1), (341, 340, 2, 89, 0, 2), (345, 344, 3, 89, 0, 2), (350, 349, 4, 89, 0, 3), (414, 413, 17, 89, 0, 1), (334, 333, 0, 89, 1, 1), (337, 336, 0, 89, 1, 1), (366, 365, 5, 89, 0, 2), (386, 385, 10, 89, 0, 1), (390, 389, 11, 89, 0, 1), (394, 393, 12, 89, 0, 1), (398, 397, 13, 89, 0, 1), (402, 401, 14, 89, 0, 1), (406, 405, 15, 89, 0, 1), (410, 409, 16, 89, 0, 1), (374, 373, 7, 89, 0, 1), (370, 369, 6, 89, 0, 1), (378, 377, 8, 89, 0, 0)]
def mpL_1 : List (Nat × Nat × Nat × Nat × Nat × Nat) := [(382, 381, 9, 89, 0, 0), (418, 417, 18, 89, 0, 1), (625, 624, 0, 100, 0, 0), (1237, 1235, 1236, 100, 0, 0), (1241, 1239, 1240, 100, 0, 1), (1254, 1252, 1253, 100, 0, 2), (1228, 1226, 1227, 100, 0, 2), (1246, 1244, 1245, 100, 0, 2), (531, 530, 0, 97, 0, 2), (1053, 1051, 1052, 97, 0, 4), (1075, 1073, 1074, 97, 0, 4), (1057, 1056, 24, 97, 0, 3), (1063, 1062, 25, 97, 0, 3), (225, 224, 0, 88, 0, 0), (837, 835, 836, 88, 0, 1), (823, 821, 822, 88, 0, 2), (318, 316, 317, 88, 0, 0), (870, 868, 869, 88, 0, 3), (874, 873, 0, 88, 1, 2), (878, 877, 0, 88, 1, 3), (117, 116, 0, 84, 0, 0), (690, 688, 689, 84, 0, 1), (694, 692, 693, 84, 0, 1), (698, 696, 697, 84, 0, 1), (776, 774, 775, 84, 0, 3), (803, 801, 802, 84, 0, 3), (799, 797, 798, 84, 0, 2), (109, 108, 0, 83, 0, 0), (670, 668, 669, 83, 0, 2), (678, 676, 677, 83, 0, 2), (682, 680, 681, 83, 0, 2), (686, 684, 685, 83, 0, 2), (706, 704, 705, 83, 0, 4), (727, 725, 726, 83, 0, 2), (745, 743, 744, 83, 0, 2), (752, 750, 751, 83, 0, 2), (756, 754, 755, 83, 0, 2), (767, 765, 766, 83, 0, 2), (789, 787, 788, 83, 0, 2), (810, 808, 809, 83, 0, 2), (819, 817, 818, 83, 0, 2), (828, 826, 827, 83, 0, 0), (833, 831, 832, 83, 0, 2), (842, 840, 841, 83, 0, 4), (882, 880, 881, 83, 0, 2), (900, 898, 899, 83, 0, 1), (908, 906, 907, 83, 0, 5), (916, 914, 915, 83, 0, 3), (924, 922, 923, 83, 0, 3), (932, 930, 931, 83, 0, 4), (940, 938, 939, 83, 0, 1), (955, 953, 954, 83, 0, 2), (983, 981, 982, 83, 0, 0), (997, 995, 996, 83, 0, 3), (1006, 1004, 1005, 83, 0, 1), (1015, 1013, 1014, 83, 0, 3), (1026, 1024, 1025, 83, 0, 0), (1034, 1032, 1033, 83, 0, 2), (1038, 1036, 1037, 83, 0, 3), (1070, 1068, 1069, 83, 0, 4), (1082, 1080, 1081, 83, 0, 1), (1090, 1088, 1089, 83, 0, 3), (1118, 1116, 1117, 83, 0, 3), (1159, 1157, 1158, 83, 0, 1), (1164, 1162, 1163, 83, 0, 3), (1173, 1171, 1172, 83, 0, 2), (1186, 1184, 1185, 83, 0, 1), (1194, 1192, 1193, 83, 0, 1), (1202, 1200, 1201, 83, 0, 3), (1212, 1210, 1211, 83, 0, 1), (1217, 1215, 1216, 83, 0, 1), (1221, 1219, 1220, 83, 0, 3), (1233, 1231, 1232, 83, 0, 3), (1250, 1248, 1249, 83, 0, 5), (1261, 1259, 1260, 83, 0, 5), (1269, 1267, 1268, 83, 0, 2), (1265, 1264, 32, 83, 0, 4), (424, 423, 0, 83, 1, 3), (673, 672, 0, 83, 1, 1), (759, 758, 0, 83, 1, 1)]
def mpL_2 : List (Nat × Nat × Nat × Nat × Nat × Nat) := [(712, 711, 0, 83, 1, 1), (863, 862, 0, 83, 1, 1), (748, 747, 0, 83, 1, 1), (709, 708, 0, 83, 1, 1), (1224, 1223, 0, 83, 1, 1), (1018, 1017, 0, 83, 1, 2), (896, 895, 0, 83, 1, 2), (702, 701, 0, 83, 1, 1), (972, 971, 0, 83, 1, 2), (779, 778, 0, 83, 1, 1), (1493, 1492, 35, 101, 0, 3), (1274, 1273, 0, 101, 0, 0), (1489, 1488, 34, 101, 0, 1), (1549, 1548, 41, 101, 0, 1), (1485, 1483, 1484, 101, 0, 2), (1497, 1495, 1496, 101, 0, 2), (1501, 1499, 1500, 101, 0, 2), (1509, 1508, 36, 101, 0, 1), (1513, 1512, 37, 101, 0, 1), (1505, 1503, 1504, 101, 0, 2), (1585, 1584, 48, 101, 0, 1), (1581, 1580, 47, 101, 0, 2), (1565, 1564, 44, 101, 0, 1), (1525, 1524, 38, 101, 0, 1), (1517, 1515, 1516, 101, 0, 4), (1529, 1528, 39, 101, 0, 2), (1521, 1519, 1520, 101, 0, 2), (1533, 1531, 1532, 101, 0, 2), (1541, 1540, 40, 101, 0, 1), (1537, 1535, 1536, 101, 0, 2), (1553, 1552, 42, 101, 0, 2), (1545, 1543, 1544, 101, 0, 2), (1561, 1560, 43, 101, 0, 3), (1557, 1555, 1556, 101, 0, 2), (1589, 1588, 49, 101, 0, 2), (1577, 1576, 46, 101, 0, 3), (1573, 1572, 45, 101, 0, 2), (1569, 1567, 1568, 101, 0, 2), (1598, 1597, 50, 101, 0, 2), (1594, 1592, 1593, 101, 0, 2), (1279, 1278, 33, 101, 0, 0), (1602, 1600, 1601, 101, 0, 2), (1618, 1617, 53, 101, 0, 1), (1642, 1641, 56, 101, 0, 1), (1627, 1626, 55, 101, 0, 1), (1622, 1621, 54, 101, 0, 0), (1614, 1613, 52, 101, 0, 0), (1646, 1645, 57, 101, 0, 1), (1658, 1657, 60, 101, 0, 1), (1666, 1665, 62, 101, 0, 1), (1674, 1673, 64, 101, 0, 1), (1670, 1669, 63, 101, 0, 1), (1662, 1661, 61, 101, 0, 1), (1654, 1653, 59, 101, 0, 1), (1678, 1677, 65, 101, 0, 0), (1650, 1649, 58, 101, 0, 0), (1610, 1609, 51, 101, 0, 0), (1606, 1604, 1605, 101, 0, 0), (1682, 1680, 1681, 101, 0, 2), (1698, 1697, 68, 101, 0, 3), (1694, 1693, 67, 101, 0, 2), (1690, 1689, 66, 101, 0, 4), (1686, 1684, 1685, 101, 0, 4), (1702, 1700, 1701, 101, 0, 2), (1706, 1704, 1705, 101, 0, 1), (1710, 1708, 1709, 101, 0, 5), (1714, 1712, 1713, 101, 0, 3), (1734, 1733, 69, 101, 0, 1), (1718, 1716, 1717, 101, 0, 3), (1746, 1745, 72, 101, 0, 1), (1742, 1741, 71, 101, 0, 4), (1722, 1720, 1721, 101, 0, 4), (1726, 1724, 1725, 101, 0, 1), (1738, 1737, 70, 101, 0, 2), (1730, 1728, 1729, 101, 0, 2), (1750, 1748, 1749, 101, 0, 0), (1759, 1758, 73, 101, 0, 4), (1754, 1752, 1753, 101, 0, 3), (1763, 1761, 1762, 101, 0, 1), (1767, 1765, 1766, 101, 0, 3)]
def mpL_3 : List (Nat × Nat × Nat × Nat × Nat × Nat) := [(1771, 1769, 1770, 101, 0, 0), (1775, 1773, 1774, 101, 0, 2), (1787, 1786, 75, 101, 0, 4), (1783, 1782, 74, 101, 0, 2), (1779, 1777, 1778, 101, 0, 3), (1795, 1794, 76, 101, 0, 1), (1791, 1789, 1790, 101, 0, 4), (1799, 1797, 1798, 101, 0, 1), (1811, 1810, 78, 101, 0, 1), (1807, 1806, 77, 101, 0, 1), (1803, 1801, 1802, 101, 0, 3), (1819, 1818, 79, 101, 0, 2), (1815, 1813, 1814, 101, 0, 1), (1827, 1826, 80, 101, 0, 1), (1823, 1821, 1822, 101, 0, 3), (1831, 1829, 1830, 101, 0, 3), (1835, 1833, 1834, 101, 0, 2), (1839, 1837, 1838, 101, 0, 1), (1843, 1841, 1842, 101, 0, 1), (1847, 1845, 1846, 101, 0, 3), (1852, 1850, 1851, 101, 0, 1), (1856, 1854, 1855, 101, 0, 1), (1864, 1863, 81, 101, 0, 1), (1860, 1858, 1859, 101, 0, 3), (1868, 1866, 1867, 101, 0, 3), (1872, 1870, 1871, 101, 0, 5), (1876, 1874, 1875, 101, 0, 5), (1881, 1879, 1880, 101, 0, 2), (948, 947, 0, 102, 1, 1), (1109, 1108, 0, 103, 1, 1), (806, 805, 0, 91, 1, 1), (785, 784, 0, 91, 1, 2), (276, 275, 0, 91, 1, 2), (267, 265, 266, 90, 0, 0), (280, 278, 279, 90, 0, 1), (271, 269, 270, 90, 0, 0), (284, 282, 283, 90, 0, 0), (290, 289, 0, 90, 1, 2), (287, 286, 0, 92, 1, 2), (308, 307, 0, 94, 1, 2), (304, 303, 0, 94, 1, 1), (298, 297, 0, 94, 1, 2), (301, 300, 0, 94, 1, 2), (121, 120, 0, 85, 1, 2), (295, 294, 0, 93, 1, 3), (0, 0, 0, 82, 1, 1)]
def mpL : List (Nat × Nat × Nat × Nat × Nat × Nat) := mpL_0 ++ (mpL_1 ++ (mpL_2 ++ (mpL_3)))
def mt0 : MethodName × ByteArray × Nat × Option FieldType × Nat × Nat := (yL_law, cL_law, 4, some .boolean, 13, 0)
def mt (i : Nat) : MethodName × ByteArray × Nat × Option FieldType × Nat × Nat := (mtL[i]?).getD mt0
def my (i : Nat) := (mt i).1
def mcc (i : Nat) := (mt i).2.1
def mnl (i : Nat) := (mt i).2.2.1
def mrt (i : Nat) := (mt i).2.2.2.1
def mci (i : Nat) := (mt i).2.2.2.2.1
def mal (i : Nat) := (mt i).2.2.2.2.2
theorem mt_0 : mcc 0 = cX0_init ∧ mnl 0 = 2 ∧ mrt 0 = none ∧ mci 0 = 0 := ⟨rfl, rfl, rfl, rfl⟩
theorem mcc_0 : mcc 0 = cX0_init := rfl
theorem mci_0 : mci 0 = 0 := rfl
theorem mt_1 : mcc 1 = cX0_addDoing ∧ mnl 1 = 4 ∧ mrt 1 = (some .int) ∧ mci 1 = 0 := ⟨rfl, rfl, rfl, rfl⟩
theorem mcc_1 : mcc 1 = cX0_addDoing := rfl
theorem mci_1 : mci 1 = 0 := rfl
theorem mt_2 : mcc 2 = cX0_addReport ∧ mnl 2 = 5 ∧ mrt 2 = (some .int) ∧ mci 2 = 0 := ⟨rfl, rfl, rfl, rfl⟩
theorem mcc_2 : mcc 2 = cX0_addReport := rfl
theorem mci_2 : mci 2 = 0 := rfl
theorem mt_3 : mcc 3 = cX0_addFinding ∧ mnl 3 = 4 ∧ mrt 3 = (some .int) ∧ mci 3 = 0 := ⟨rfl, rfl, rfl, rfl⟩
theorem mcc_3 : mcc 3 = cX0_addFinding := rfl
theorem mci_3 : mci 3 = 0 := rfl
theorem mt_4 : mcc 4 = cX0_takeReportBack ∧ mnl 4 = 2 ∧ mrt 4 = (some .int) ∧ mci 4 = 0 := ⟨rfl, rfl, rfl, rfl⟩
theorem mcc_4 : mcc 4 = cX0_takeReportBack := rfl
theorem mci_4 : mci 4 = 0 := rfl
theorem mt_5 : mcc 5 = cX0_isLet ∧ mnl 5 = 4 ∧ mrt 5 = (some .boolean) ∧ mci 5 = 0 := ⟨rfl, rfl, rfl, rfl⟩
theorem mcc_5 : mcc 5 = cX0_isLet := rfl
theorem mci_5 : mci 5 = 0 := rfl
theorem mt_6 : mcc 6 = cX0_allLeft ∧ mnl 6 = 3 ∧ mrt 6 = (some .int) ∧ mci 6 = 0 := ⟨rfl, rfl, rfl, rfl⟩
theorem mcc_6 : mcc 6 = cX0_allLeft := rfl
theorem mci_6 : mci 6 = 0 := rfl
theorem mt_7 : mcc 7 = cX0_worstOf ∧ mnl 7 = 7 ∧ mrt 7 = (some .int) ∧ mci 7 = 0 := ⟨rfl, rfl, rfl, rfl⟩
theorem mcc_7 : mcc 7 = cX0_worstOf := rfl
theorem mci_7 : mci 7 = 0 := rfl
theorem mt_8 : mcc 8 = cX0_bestLook ∧ mnl 8 = 8 ∧ mrt 8 = (some .int) ∧ mci 8 = 0 := ⟨rfl, rfl, rfl, rfl⟩
theorem mcc_8 : mcc 8 = cX0_bestLook := rfl
theorem mci_8 : mci 8 = 0 := rfl
theorem mt_9 : mcc 9 = cX0_allStanding ∧ mnl 9 = 4 ∧ mrt 9 = (some .int) ∧ mci 9 = 0 := ⟨rfl, rfl, rfl, rfl⟩
theorem mcc_9 : mcc 9 = cX0_allStanding := rfl
theorem mci_9 : mci 9 = 0 := rfl
theorem mt_10 : mcc 10 = cX0_isLetByAll ∧ mnl 10 = 4 ∧ mrt 10 = (some .boolean) ∧ mci 10 = 0 := ⟨rfl, rfl, rfl, rfl⟩
theorem mcc_10 : mcc 10 = cX0_isLetByAll := rfl
theorem mci_10 : mci 10 = 0 := rfl
theorem mt_11 : mcc 11 = cX0_isNoticed ∧ mnl 11 = 5 ∧ mrt 11 = (some .boolean) ∧ mci 11 = 0 := ⟨rfl, rfl, rfl, rfl⟩
theorem mcc_11 : mcc 11 = cX0_isNoticed := rfl
theorem mci_11 : mci 11 = 0 := rfl
theorem mt_12 : mcc 12 = cX1_init ∧ mnl 12 = 4 ∧ mrt 12 = none ∧ mci 12 = 1 := ⟨rfl, rfl, rfl, rfl⟩
theorem mcc_12 : mcc 12 = cX1_init := rfl
theorem mci_12 : mci 12 = 1 := rfl
theorem mt_13 : mcc 13 = cX1_valueOf ∧ mnl 13 = 8 ∧ mrt 13 = (some .int) ∧ mci 13 = 1 := ⟨rfl, rfl, rfl, rfl⟩
theorem mcc_13 : mcc 13 = cX1_valueOf := rfl
theorem mci_13 : mci 13 = 1 := rfl
theorem mt_14 : mcc 14 = cX1_allBreaches ∧ mnl 14 = 5 ∧ mrt 14 = (some .int) ∧ mci 14 = 1 := ⟨rfl, rfl, rfl, rfl⟩
theorem mcc_14 : mcc 14 = cX1_allBreaches := rfl
theorem mci_14 : mci 14 = 1 := rfl
theorem mt_15 : mcc 15 = cX1_knownBreaches ∧ mnl 15 = 10 ∧ mrt 15 = (some .int) ∧ mci 15 = 1 := ⟨rfl, rfl, rfl, rfl⟩
theorem mcc_15 : mcc 15 = cX1_knownBreaches := rfl
theorem mci_15 : mci 15 = 1 := rfl
theorem mt_16 : mcc 16 = cX1_allAstray ∧ mnl 16 = 5 ∧ mrt 16 = (some .int) ∧ mci 16 = 1 := ⟨rfl, rfl, rfl, rfl⟩
theorem mcc_16 : mcc 16 = cX1_allAstray := rfl
theorem mci_16 : mci 16 = 1 := rfl
theorem mt_17 : mcc 17 = cX1_tellName ∧ mnl 17 = 3 ∧ mrt 17 = none ∧ mci 17 = 1 := ⟨rfl, rfl, rfl, rfl⟩
theorem mcc_17 : mcc 17 = cX1_tellName := rfl
theorem mci_17 : mci 17 = 1 := rfl
theorem mt_18 : mcc 18 = cX1_signedFar ∧ mnl 18 = 4 ∧ mrt 18 = (some .int) ∧ mci 18 = 1 := ⟨rfl, rfl, rfl, rfl⟩
theorem mcc_18 : mcc 18 = cX1_signedFar := rfl
theorem mci_18 : mci 18 = 1 := rfl
theorem mt_19 : mcc 19 = cX1_isOnOtherSide ∧ mnl 19 = 3 ∧ mrt 19 = (some .boolean) ∧ mci 19 = 1 := ⟨rfl, rfl, rfl, rfl⟩
theorem mcc_19 : mcc 19 = cX1_isOnOtherSide := rfl
theorem mci_19 : mci 19 = 1 := rfl
theorem mt_20 : mcc 20 = cX2_init ∧ mnl 20 = 1 ∧ mrt 20 = none ∧ mci 20 = 2 := ⟨rfl, rfl, rfl, rfl⟩
theorem mcc_20 : mcc 20 = cX2_init := rfl
theorem mci_20 : mci 20 = 2 := rfl
theorem mt_21 : mcc 21 = cX2_isUnder ∧ mnl 21 = 4 ∧ mrt 21 = (some .boolean) ∧ mci 21 = 2 := ⟨rfl, rfl, rfl, rfl⟩
theorem mcc_21 : mcc 21 = cX2_isUnder := rfl
theorem mci_21 : mci 21 = 2 := rfl
theorem mt_22 : mcc 22 = cX2_sightOf ∧ mnl 22 = 5 ∧ mrt 22 = (some .int) ∧ mci 22 = 2 := ⟨rfl, rfl, rfl, rfl⟩
theorem mcc_22 : mcc 22 = cX2_sightOf := rfl
theorem mci_22 : mci 22 = 2 := rfl
theorem mt_23 : mcc 23 = cX2_become ∧ mnl 23 = 5 ∧ mrt 23 = none ∧ mci 23 = 2 := ⟨rfl, rfl, rfl, rfl⟩
theorem mcc_23 : mcc 23 = cX2_become := rfl
theorem mci_23 : mci 23 = 2 := rfl
theorem mt_24 : mcc 24 = cX2_walkBy ∧ mnl 24 = 2 ∧ mrt 24 = (some .int) ∧ mci 24 = 2 := ⟨rfl, rfl, rfl, rfl⟩
theorem mcc_24 : mcc 24 = cX2_walkBy := rfl
theorem mci_24 : mci 24 = 2 := rfl
theorem mt_25 : mcc 25 = cX2_cellIn ∧ mnl 25 = 2 ∧ mrt 25 = (some .int) ∧ mci 25 = 2 := ⟨rfl, rfl, rfl, rfl⟩
theorem mcc_25 : mcc 25 = cX2_cellIn := rfl
theorem mci_25 : mci 25 = 2 := rfl
theorem mt_26 : mcc 26 = cX3_init ∧ mnl 26 = 3 ∧ mrt 26 = none ∧ mci 26 = 3 := ⟨rfl, rfl, rfl, rfl⟩
theorem mcc_26 : mcc 26 = cX3_init := rfl
theorem mci_26 : mci 26 = 3 := rfl
theorem mt_27 : mcc 27 = cX3_add ∧ mnl 27 = 5 ∧ mrt 27 = (some .int) ∧ mci 27 = 3 := ⟨rfl, rfl, rfl, rfl⟩
theorem mcc_27 : mcc 27 = cX3_add := rfl
theorem mci_27 : mci 27 = 3 := rfl
theorem mt_28 : mcc 28 = cX3_has ∧ mnl 28 = 2 ∧ mrt 28 = (some .boolean) ∧ mci 28 = 3 := ⟨rfl, rfl, rfl, rfl⟩
theorem mcc_28 : mcc 28 = cX3_has := rfl
theorem mci_28 : mci 28 = 3 := rfl
theorem mt_29 : mcc 29 = cX3_isOfArmy ∧ mnl 29 = 2 ∧ mrt 29 = (some .boolean) ∧ mci 29 = 3 := ⟨rfl, rfl, rfl, rfl⟩
theorem mcc_29 : mcc 29 = cX3_isOfArmy := rfl
theorem mci_29 : mci 29 = 3 := rfl
theorem mt_30 : mcc 30 = cX3_allHeld ∧ mnl 30 = 3 ∧ mrt 30 = (some .int) ∧ mci 30 = 3 := ⟨rfl, rfl, rfl, rfl⟩
theorem mcc_30 : mcc 30 = cX3_allHeld := rfl
theorem mci_30 : mci 30 = 3 := rfl
theorem mt_31 : mcc 31 = cX3_sightIn ∧ mnl 31 = 3 ∧ mrt 31 = (some .int) ∧ mci 31 = 3 := ⟨rfl, rfl, rfl, rfl⟩
theorem mcc_31 : mcc 31 = cX3_sightIn := rfl
theorem mci_31 : mci 31 = 3 := rfl
theorem mt_32 : mcc 32 = cX3_canSee ∧ mnl 32 = 5 ∧ mrt 32 = (some .boolean) ∧ mci 32 = 3 := ⟨rfl, rfl, rfl, rfl⟩
theorem mcc_32 : mcc 32 = cX3_canSee := rfl
theorem mci_32 : mci 32 = 3 := rfl
theorem mt_33 : mcc 33 = cX3_seenBy ∧ mnl 33 = 3 ∧ mrt 33 = (some .long) ∧ mci 33 = 3 := ⟨rfl, rfl, rfl, rfl⟩
theorem mcc_33 : mcc 33 = cX3_seenBy := rfl
theorem mci_33 : mci 33 = 3 := rfl
theorem mt_34 : mcc 34 = cX3_seenBySide ∧ mnl 34 = 6 ∧ mrt 34 = (some .long) ∧ mci 34 = 3 := ⟨rfl, rfl, rfl, rfl⟩
theorem mcc_34 : mcc 34 = cX3_seenBySide := rfl
theorem mci_34 : mci 34 = 3 := rfl
theorem mt_35 : mcc 35 = cX3_canHear ∧ mnl 35 = 5 ∧ mrt 35 = (some .boolean) ∧ mci 35 = 3 := ⟨rfl, rfl, rfl, rfl⟩
theorem mcc_35 : mcc 35 = cX3_canHear := rfl
theorem mci_35 : mci 35 = 3 := rfl
theorem mt_36 : mcc 36 = cX4_init ∧ mnl 36 = 1 ∧ mrt 36 = none ∧ mci 36 = 4 := ⟨rfl, rfl, rfl, rfl⟩
theorem mcc_36 : mcc 36 = cX4_init := rfl
theorem mci_36 : mci 36 = 4 := rfl
theorem mt_37 : mcc 37 = cX4_addPermit ∧ mnl 37 = 6 ∧ mrt 37 = (some .int) ∧ mci 37 = 4 := ⟨rfl, rfl, rfl, rfl⟩
theorem mcc_37 : mcc 37 = cX4_addPermit := rfl
theorem mci_37 : mci 37 = 4 := rfl
theorem mt_38 : mcc 38 = cX4_leastPermit ∧ mnl 38 = 7 ∧ mrt 38 = (some .int) ∧ mci 38 = 4 := ⟨rfl, rfl, rfl, rfl⟩
theorem mcc_38 : mcc 38 = cX4_leastPermit := rfl
theorem mci_38 : mci 38 = 4 := rfl
theorem mt_39 : mcc 39 = cX4_addProtest ∧ mnl 39 = 4 ∧ mrt 39 = (some .int) ∧ mci 39 = 4 := ⟨rfl, rfl, rfl, rfl⟩
theorem mcc_39 : mcc 39 = cX4_addProtest := rfl
theorem mci_39 : mci 39 = 4 := rfl
theorem mt_40 : mcc 40 = cX4_hasProtest ∧ mnl 40 = 2 ∧ mrt 40 = (some .boolean) ∧ mci 40 = 4 := ⟨rfl, rfl, rfl, rfl⟩
theorem mcc_40 : mcc 40 = cX4_hasProtest := rfl
theorem mci_40 : mci 40 = 4 := rfl
theorem mt_41 : mcc 41 = cX4_answerProtest ∧ mnl 41 = 3 ∧ mrt 41 = (some .int) ∧ mci 41 = 4 := ⟨rfl, rfl, rfl, rfl⟩
theorem mcc_41 : mcc 41 = cX4_answerProtest := rfl
theorem mci_41 : mci 41 = 4 := rfl
theorem mt_42 : mcc 42 = cX4_allLate ∧ mnl 42 = 5 ∧ mrt 42 = (some .int) ∧ mci 42 = 4 := ⟨rfl, rfl, rfl, rfl⟩
theorem mcc_42 : mcc 42 = cX4_allLate := rfl
theorem mci_42 : mci 42 = 4 := rfl
theorem mt_43 : mcc 43 = cX4_leastBlamer ∧ mnl 43 = 3 ∧ mrt 43 = (some .int) ∧ mci 43 = 4 := ⟨rfl, rfl, rfl, rfl⟩
theorem mcc_43 : mcc 43 = cX4_leastBlamer := rfl
theorem mci_43 : mci 43 = 4 := rfl
theorem mt_44 : mcc 44 = cX4_putListed ∧ mnl 44 = 7 ∧ mrt 44 = (some .int) ∧ mci 44 = 4 := ⟨rfl, rfl, rfl, rfl⟩
theorem mcc_44 : mcc 44 = cX4_putListed := rfl
theorem mci_44 : mci 44 = 4 := rfl
theorem mt_45 : mcc 45 = cX5_init ∧ mnl 45 = 3 ∧ mrt 45 = none ∧ mci 45 = 5 := ⟨rfl, rfl, rfl, rfl⟩
theorem mcc_45 : mcc 45 = cX5_init := rfl
theorem mci_45 : mci 45 = 5 := rfl
theorem mt_46 : mcc 46 = cX5_addCell ∧ mnl 46 = 2 ∧ mrt 46 = (some .int) ∧ mci 46 = 5 := ⟨rfl, rfl, rfl, rfl⟩
theorem mcc_46 : mcc 46 = cX5_addCell := rfl
theorem mci_46 : mci 46 = 5 := rfl
theorem mt_47 : mcc 47 = cX5_bestPosts ∧ mnl 47 = 7 ∧ mrt 47 = (some .int) ∧ mci 47 = 5 := ⟨rfl, rfl, rfl, rfl⟩
theorem mcc_47 : mcc 47 = cX5_bestPosts := rfl
theorem mci_47 : mci 47 = 5 := rfl
theorem mt_48 : mcc 48 = cX5_seenFromAll ∧ mnl 48 = 5 ∧ mrt 48 = (some .long) ∧ mci 48 = 5 := ⟨rfl, rfl, rfl, rfl⟩
theorem mcc_48 : mcc 48 = cX5_seenFromAll := rfl
theorem mci_48 : mci 48 = 5 := rfl
theorem mt_49 : mcc 49 = cX5_lookFromAll ∧ mnl 49 = 3 ∧ mrt 49 = none ∧ mci 49 = 5 := ⟨rfl, rfl, rfl, rfl⟩
theorem mcc_49 : mcc 49 = cX5_lookFromAll := rfl
theorem mci_49 : mci 49 = 5 := rfl
theorem mt_50 : mcc 50 = cX5_strengthOf ∧ mnl 50 = 4 ∧ mrt 50 = (some .int) ∧ mci 50 = 5 := ⟨rfl, rfl, rfl, rfl⟩
theorem mcc_50 : mcc 50 = cX5_strengthOf := rfl
theorem mci_50 : mci 50 = 5 := rfl
theorem mt_51 : mcc 51 = cX5_canDraw ∧ mnl 51 = 3 ∧ mrt 51 = (some .boolean) ∧ mci 51 = 5 := ⟨rfl, rfl, rfl, rfl⟩
theorem mcc_51 : mcc 51 = cX5_canDraw := rfl
theorem mci_51 : mci 51 = 5 := rfl
theorem mt_52 : mcc 52 = cX5_drawnAt ∧ mnl 52 = 7 ∧ mrt 52 = (some .int) ∧ mci 52 = 5 := ⟨rfl, rfl, rfl, rfl⟩
theorem mcc_52 : mcc 52 = cX5_drawnAt := rfl
theorem mci_52 : mci 52 = 5 := rfl
theorem mt_53 : mcc 53 = cX5_isGunHere ∧ mnl 53 = 2 ∧ mrt 53 = (some .boolean) ∧ mci 53 = 5 := ⟨rfl, rfl, rfl, rfl⟩
theorem mcc_53 : mcc 53 = cX5_isGunHere := rfl
theorem mci_53 : mci 53 = 5 := rfl
theorem mt_54 : mcc 54 = cX5_tellGuns ∧ mnl 54 = 3 ∧ mrt 54 = none ∧ mci 54 = 5 := ⟨rfl, rfl, rfl, rfl⟩
theorem mcc_54 : mcc 54 = cX5_tellGuns := rfl
theorem mci_54 : mci 54 = 5 := rfl
theorem mt_55 : mcc 55 = cX5_openSets ∧ mnl 55 = 6 ∧ mrt 55 = none ∧ mci 55 = 5 := ⟨rfl, rfl, rfl, rfl⟩
theorem mcc_55 : mcc 55 = cX5_openSets := rfl
theorem mci_55 : mci 55 = 5 := rfl
theorem mt_56 : mcc 56 = cX5_leadOf ∧ mnl 56 = 5 ∧ mrt 56 = (some .int) ∧ mci 56 = 5 := ⟨rfl, rfl, rfl, rfl⟩
theorem mcc_56 : mcc 56 = cX5_leadOf := rfl
theorem mci_56 : mci 56 = 5 := rfl
theorem mt_57 : mcc 57 = cX5_nextDrawn ∧ mnl 57 = 3 ∧ mrt 57 = (some .int) ∧ mci 57 = 5 := ⟨rfl, rfl, rfl, rfl⟩
theorem mcc_57 : mcc 57 = cX5_nextDrawn := rfl
theorem mci_57 : mci 57 = 5 := rfl
theorem mt_58 : mcc 58 = cX6_init ∧ mnl 58 = 3 ∧ mrt 58 = none ∧ mci 58 = 6 := ⟨rfl, rfl, rfl, rfl⟩
theorem mcc_58 : mcc 58 = cX6_init := rfl
theorem mci_58 : mci 58 = 6 := rfl
theorem mt_59 : mcc 59 = cX6_isName ∧ mnl 59 = 1 ∧ mrt 59 = (some .boolean) ∧ mci 59 = 6 := ⟨rfl, rfl, rfl, rfl⟩
theorem mcc_59 : mcc 59 = cX6_isName := rfl
theorem mci_59 : mci 59 = 6 := rfl
theorem mt_60 : mcc 60 = cX6_read ∧ mnl 60 = 4 ∧ mrt 60 = (some .int) ∧ mci 60 = 6 := ⟨rfl, rfl, rfl, rfl⟩
theorem mcc_60 : mcc 60 = cX6_read := rfl
theorem mci_60 : mci 60 = 6 := rfl
theorem mt_61 : mcc 61 = cX6_splitTape ∧ mnl 61 = 4 ∧ mrt 61 = none ∧ mci 61 = 6 := ⟨rfl, rfl, rfl, rfl⟩
theorem mcc_61 : mcc 61 = cX6_splitTape := rfl
theorem mci_61 : mci 61 = 6 := rfl
theorem mt_62 : mcc 62 = cX6_endOf ∧ mnl 62 = 3 ∧ mrt 62 = (some .int) ∧ mci 62 = 6 := ⟨rfl, rfl, rfl, rfl⟩
theorem mcc_62 : mcc 62 = cX6_endOf := rfl
theorem mci_62 : mci 62 = 6 := rfl
theorem mt_63 : mcc 63 = cX6_tokenOf ∧ mnl 63 = 6 ∧ mrt 63 = (some .int) ∧ mci 63 = 6 := ⟨rfl, rfl, rfl, rfl⟩
theorem mcc_63 : mcc 63 = cX6_tokenOf := rfl
theorem mci_63 : mci 63 = 6 := rfl
theorem mt_64 : mcc 64 = cX6_wordOf ∧ mnl 64 = 3 ∧ mrt 64 = (some .int) ∧ mci 64 = 6 := ⟨rfl, rfl, rfl, rfl⟩
theorem mcc_64 : mcc 64 = cX6_wordOf := rfl
theorem mci_64 : mci 64 = 6 := rfl
theorem mt_65 : mcc 65 = cX6_isSpelt ∧ mnl 65 = 5 ∧ mrt 65 = (some .boolean) ∧ mci 65 = 6 := ⟨rfl, rfl, rfl, rfl⟩
theorem mcc_65 : mcc 65 = cX6_isSpelt := rfl
theorem mci_65 : mci 65 = 6 := rfl
theorem mt_66 : mcc 66 = cX6_numberAt ∧ mnl 66 = 4 ∧ mrt 66 = (some .int) ∧ mci 66 = 6 := ⟨rfl, rfl, rfl, rfl⟩
theorem mcc_66 : mcc 66 = cX6_numberAt := rfl
theorem mci_66 : mci 66 = 6 := rfl
theorem mt_67 : mcc 67 = cX6_isLetter ∧ mnl 67 = 1 ∧ mrt 67 = (some .boolean) ∧ mci 67 = 6 := ⟨rfl, rfl, rfl, rfl⟩
theorem mcc_67 : mcc 67 = cX6_isLetter := rfl
theorem mci_67 : mci 67 = 6 := rfl
theorem mt_68 : mcc 68 = cX6_isDigit ∧ mnl 68 = 1 ∧ mrt 68 = (some .boolean) ∧ mci 68 = 6 := ⟨rfl, rfl, rfl, rfl⟩
theorem mcc_68 : mcc 68 = cX6_isDigit := rfl
theorem mci_68 : mci 68 = 6 := rfl
theorem mt_69 : mcc 69 = cX6_readPart ∧ mnl 69 = 3 ∧ mrt 69 = none ∧ mci 69 = 6 := ⟨rfl, rfl, rfl, rfl⟩
theorem mcc_69 : mcc 69 = cX6_readPart := rfl
theorem mci_69 : mci 69 = 6 := rfl
theorem mt_70 : mcc 70 = cX6_readOr ∧ mnl 70 = 3 ∧ mrt 70 = none ∧ mci 70 = 6 := ⟨rfl, rfl, rfl, rfl⟩
theorem mcc_70 : mcc 70 = cX6_readOr := rfl
theorem mci_70 : mci 70 = 6 := rfl
theorem mt_71 : mcc 71 = cX6_readAnd ∧ mnl 71 = 3 ∧ mrt 71 = none ∧ mci 71 = 6 := ⟨rfl, rfl, rfl, rfl⟩
theorem mcc_71 : mcc 71 = cX6_readAnd := rfl
theorem mci_71 : mci 71 = 6 := rfl
theorem mt_72 : mcc 72 = cX6_readNot ∧ mnl 72 = 2 ∧ mrt 72 = none ∧ mci 72 = 6 := ⟨rfl, rfl, rfl, rfl⟩
theorem mcc_72 : mcc 72 = cX6_readNot := rfl
theorem mci_72 : mci 72 = 6 := rfl
theorem mt_73 : mcc 73 = cX6_readComparison ∧ mnl 73 = 3 ∧ mrt 73 = none ∧ mci 73 = 6 := ⟨rfl, rfl, rfl, rfl⟩
theorem mcc_73 : mcc 73 = cX6_readComparison := rfl
theorem mci_73 : mci 73 = 6 := rfl
theorem mt_74 : mcc 74 = cX6_readSum ∧ mnl 74 = 4 ∧ mrt 74 = none ∧ mci 74 = 6 := ⟨rfl, rfl, rfl, rfl⟩
theorem mcc_74 : mcc 74 = cX6_readSum := rfl
theorem mci_74 : mci 74 = 6 := rfl
theorem mt_75 : mcc 75 = cX6_readTerm ∧ mnl 75 = 3 ∧ mrt 75 = none ∧ mci 75 = 6 := ⟨rfl, rfl, rfl, rfl⟩
theorem mcc_75 : mcc 75 = cX6_readTerm := rfl
theorem mci_75 : mci 75 = 6 := rfl
theorem mt_76 : mcc 76 = cX6_readOne ∧ mnl 76 = 3 ∧ mrt 76 = none ∧ mci 76 = 6 := ⟨rfl, rfl, rfl, rfl⟩
theorem mcc_76 : mcc 76 = cX6_readOne := rfl
theorem mci_76 : mci 76 = 6 := rfl
theorem mt_77 : mcc 77 = cX6_isNext ∧ mnl 77 = 2 ∧ mrt 77 = (some .boolean) ∧ mci 77 = 6 := ⟨rfl, rfl, rfl, rfl⟩
theorem mcc_77 : mcc 77 = cX6_isNext := rfl
theorem mci_77 : mci 77 = 6 := rfl
theorem mt_78 : mcc 78 = cX6_expect ∧ mnl 78 = 2 ∧ mrt 78 = none ∧ mci 78 = 6 := ⟨rfl, rfl, rfl, rfl⟩
theorem mcc_78 : mcc 78 = cX6_expect := rfl
theorem mci_78 : mci 78 = 6 := rfl
theorem mt_79 : mcc 79 = cX6_skipToken ∧ mnl 79 = 1 ∧ mrt 79 = none ∧ mci 79 = 6 := ⟨rfl, rfl, rfl, rfl⟩
theorem mcc_79 : mcc 79 = cX6_skipToken := rfl
theorem mci_79 : mci 79 = 6 := rfl
theorem mt_80 : mcc 80 = cX6_fail ∧ mnl 80 = 1 ∧ mrt 80 = none ∧ mci 80 = 6 := ⟨rfl, rfl, rfl, rfl⟩
theorem mcc_80 : mcc 80 = cX6_fail := rfl
theorem mci_80 : mci 80 = 6 := rfl
theorem mt_81 : mcc 81 = cX6_write ∧ mnl 81 = 2 ∧ mrt 81 = none ∧ mci 81 = 6 := ⟨rfl, rfl, rfl, rfl⟩
theorem mcc_81 : mcc 81 = cX6_write := rfl
theorem mci_81 : mci 81 = 6 := rfl
theorem mt_82 : mcc 82 = cX7_init ∧ mnl 82 = 1 ∧ mrt 82 = none ∧ mci 82 = 7 := ⟨rfl, rfl, rfl, rfl⟩
theorem mcc_82 : mcc 82 = cX7_init := rfl
theorem mci_82 : mci 82 = 7 := rfl
theorem mt_83 : mcc 83 = cX7_isMissing ∧ mnl 83 = 1 ∧ mrt 83 = (some .boolean) ∧ mci 83 = 7 := ⟨rfl, rfl, rfl, rfl⟩
theorem mcc_83 : mcc 83 = cX7_isMissing := rfl
theorem mci_83 : mci 83 = 7 := rfl
theorem mt_84 : mcc 84 = cX7_has ∧ mnl 84 = 2 ∧ mrt 84 = (some .boolean) ∧ mci 84 = 7 := ⟨rfl, rfl, rfl, rfl⟩
theorem mcc_84 : mcc 84 = cX7_has := rfl
theorem mci_84 : mci 84 = 7 := rfl
theorem mt_85 : mcc 85 = cX7_hasRun ∧ mnl 85 = 3 ∧ mrt 85 = (some .boolean) ∧ mci 85 = 7 := ⟨rfl, rfl, rfl, rfl⟩
theorem mcc_85 : mcc 85 = cX7_hasRun := rfl
theorem mci_85 : mci 85 = 7 := rfl
theorem mt_86 : mcc 86 = cX7_become ∧ mnl 86 = 3 ∧ mrt 86 = (some .int) ∧ mci 86 = 7 := ⟨rfl, rfl, rfl, rfl⟩
theorem mcc_86 : mcc 86 = cX7_become := rfl
theorem mci_86 : mci 86 = 7 := rfl
theorem mt_87 : mcc 87 = cX7_put ∧ mnl 87 = 3 ∧ mrt 87 = (some .int) ∧ mci 87 = 7 := ⟨rfl, rfl, rfl, rfl⟩
theorem mcc_87 : mcc 87 = cX7_put := rfl
theorem mci_87 : mci 87 = 7 := rfl
theorem mt_88 : mcc 88 = cX8_init ∧ mnl 88 = 3 ∧ mrt 88 = none ∧ mci 88 = 8 := ⟨rfl, rfl, rfl, rfl⟩
theorem mcc_88 : mcc 88 = cX8_init := rfl
theorem mci_88 : mci 88 = 8 := rfl
theorem mt_89 : mcc 89 = cX8_shotsBehind ∧ mnl 89 = 7 ∧ mrt 89 = (some .int) ∧ mci 89 = 8 := ⟨rfl, rfl, rfl, rfl⟩
theorem mcc_89 : mcc 89 = cX8_shotsBehind := rfl
theorem mci_89 : mci 89 = 8 := rfl
theorem mt_90 : mcc 90 = cX8_leastCalm ∧ mnl 90 = 11 ∧ mrt 90 = (some .int) ∧ mci 90 = 8 := ⟨rfl, rfl, rfl, rfl⟩
theorem mcc_90 : mcc 90 = cX8_leastCalm := rfl
theorem mci_90 : mci 90 = 8 := rfl
theorem mt_91 : mcc 91 = cX8_calledForth ∧ mnl 91 = 8 ∧ mrt 91 = (some .int) ∧ mci 91 = 8 := ⟨rfl, rfl, rfl, rfl⟩
theorem mcc_91 : mcc 91 = cX8_calledForth := rfl
theorem mci_91 : mci 91 = 8 := rfl
theorem mt_92 : mcc 92 = cX8_heardBy ∧ mnl 92 = 7 ∧ mrt 92 = (some .int) ∧ mci 92 = 8 := ⟨rfl, rfl, rfl, rfl⟩
theorem mcc_92 : mcc 92 = cX8_heardBy := rfl
theorem mci_92 : mci 92 = 8 := rfl
theorem mt_93 : mcc 93 = cX9_init ∧ mnl 93 = 2 ∧ mrt 93 = none ∧ mci 93 = 9 := ⟨rfl, rfl, rfl, rfl⟩
theorem mcc_93 : mcc 93 = cX9_init := rfl
theorem mci_93 : mci 93 = 9 := rfl
theorem mt_94 : mcc 94 = cX9_has ∧ mnl 94 = 2 ∧ mrt 94 = (some .boolean) ∧ mci 94 = 9 := ⟨rfl, rfl, rfl, rfl⟩
theorem mcc_94 : mcc 94 = cX9_has := rfl
theorem mci_94 : mci 94 = 9 := rfl
theorem mt_95 : mcc 95 = cX9_feedTape ∧ mnl 95 = 5 ∧ mrt 95 = (some .int) ∧ mci 95 = 9 := ⟨rfl, rfl, rfl, rfl⟩
theorem mcc_95 : mcc 95 = cX9_feedTape := rfl
theorem mci_95 : mci 95 = 9 := rfl
theorem mt_96 : mcc 96 = cX9_readTape ∧ mnl 96 = 3 ∧ mrt 96 = (some .int) ∧ mci 96 = 9 := ⟨rfl, rfl, rfl, rfl⟩
theorem mcc_96 : mcc 96 = cX9_readTape := rfl
theorem mci_96 : mci 96 = 9 := rfl
theorem mt_97 : mcc 97 = cX9_valueOf ∧ mnl 97 = 8 ∧ mrt 97 = (some .int) ∧ mci 97 = 9 := ⟨rfl, rfl, rfl, rfl⟩
theorem mcc_97 : mcc 97 = cX9_valueOf := rfl
theorem mci_97 : mci 97 = 9 := rfl
theorem mt_98 : mcc 98 = cX9_ofOne ∧ mnl 98 = 2 ∧ mrt 98 = (some .int) ∧ mci 98 = 9 := ⟨rfl, rfl, rfl, rfl⟩
theorem mcc_98 : mcc 98 = cX9_ofOne := rfl
theorem mci_98 : mci 98 = 9 := rfl
theorem mt_99 : mcc 99 = cX9_ofTwo ∧ mnl 99 = 3 ∧ mrt 99 = (some .int) ∧ mci 99 = 9 := ⟨rfl, rfl, rfl, rfl⟩
theorem mcc_99 : mcc 99 = cX9_ofTwo := rfl
theorem mci_99 : mci 99 = 9 := rfl
theorem mt_100 : mcc 100 = cX10_init ∧ mnl 100 = 1 ∧ mrt 100 = none ∧ mci 100 = 10 := ⟨rfl, rfl, rfl, rfl⟩
theorem mcc_100 : mcc 100 = cX10_init := rfl
theorem mci_100 : mci 100 = 10 := rfl
theorem mt_101 : mcc 101 = cX10_sideOf ∧ mnl 101 = 2 ∧ mrt 101 = (some .int) ∧ mci 101 = 10 := ⟨rfl, rfl, rfl, rfl⟩
theorem mcc_101 : mcc 101 = cX10_sideOf := rfl
theorem mci_101 : mci 101 = 10 := rfl
theorem mt_102 : mcc 102 = cX10_farOf ∧ mnl 102 = 3 ∧ mrt 102 = (some .int) ∧ mci 102 = 10 := ⟨rfl, rfl, rfl, rfl⟩
theorem mcc_102 : mcc 102 = cX10_farOf := rfl
theorem mci_102 : mci 102 = 10 := rfl
theorem mt_103 : mcc 103 = cX10_isStrip ∧ mnl 103 = 2 ∧ mrt 103 = (some .boolean) ∧ mci 103 = 10 := ⟨rfl, rfl, rfl, rfl⟩
theorem mcc_103 : mcc 103 = cX10_isStrip := rfl
theorem mci_103 : mci 103 = 10 := rfl
theorem mt_104 : mcc 104 = cX10_sightFrom ∧ mnl 104 = 4 ∧ mrt 104 = (some .int) ∧ mci 104 = 10 := ⟨rfl, rfl, rfl, rfl⟩
theorem mcc_104 : mcc 104 = cX10_sightFrom := rfl
theorem mci_104 : mci 104 = 10 := rfl
theorem mt_105 : mcc 105 = cX10_canSee ∧ mnl 105 = 12 ∧ mrt 105 = (some .boolean) ∧ mci 105 = 10 := ⟨rfl, rfl, rfl, rfl⟩
theorem mcc_105 : mcc 105 = cX10_canSee := rfl
theorem mci_105 : mci 105 = 10 := rfl
theorem mt_106 : mcc 106 = cX10_seenFrom ∧ mnl 106 = 6 ∧ mrt 106 = (some .long) ∧ mci 106 = 10 := ⟨rfl, rfl, rfl, rfl⟩
theorem mcc_106 : mcc 106 = cX10_seenFrom := rfl
theorem mci_106 : mci 106 = 10 := rfl
theorem mt_107 : mcc 107 = cX11_init ∧ mnl 107 = 1 ∧ mrt 107 = none ∧ mci 107 = 11 := ⟨rfl, rfl, rfl, rfl⟩
theorem mcc_107 : mcc 107 = cX11_init := rfl
theorem mci_107 : mci 107 = 11 := rfl
theorem mt_108 : mcc 108 = cX11_height ∧ mnl 108 = 4 ∧ mrt 108 = (some .int) ∧ mci 108 = 11 := ⟨rfl, rfl, rfl, rfl⟩
theorem mcc_108 : mcc 108 = cX11_height := rfl
theorem mci_108 : mci 108 = 11 := rfl
theorem mt_109 : mcc 109 = cX11_line ∧ mnl 109 = 4 ∧ mrt 109 = (some .int) ∧ mci 109 = 11 := ⟨rfl, rfl, rfl, rfl⟩
theorem mcc_109 : mcc 109 = cX11_line := rfl
theorem mci_109 : mci 109 = 11 := rfl
theorem mt_110 : mcc 110 = cX11_set ∧ mnl 110 = 4 ∧ mrt 110 = (some .int) ∧ mci 110 = 11 := ⟨rfl, rfl, rfl, rfl⟩
theorem mcc_110 : mcc 110 = cX11_set := rfl
theorem mci_110 : mci 110 = 11 := rfl
theorem mt_111 : mcc 111 = cX11_cellTold ∧ mnl 111 = 3 ∧ mrt 111 = (some .int) ∧ mci 111 = 11 := ⟨rfl, rfl, rfl, rfl⟩
theorem mcc_111 : mcc 111 = cX11_cellTold := rfl
theorem mci_111 : mci 111 = 11 := rfl
theorem mt_112 : mcc 112 = cX11_mark ∧ mnl 112 = 5 ∧ mrt 112 = (some .int) ∧ mci 112 = 11 := ⟨rfl, rfl, rfl, rfl⟩
theorem mcc_112 : mcc 112 = cX11_mark := rfl
theorem mci_112 : mci 112 = 11 := rfl
theorem mt_113 : mcc 113 = cX11_walk ∧ mnl 113 = 4 ∧ mrt 113 = (some .int) ∧ mci 113 = 11 := ⟨rfl, rfl, rfl, rfl⟩
theorem mcc_113 : mcc 113 = cX11_walk := rfl
theorem mci_113 : mci 113 = 11 := rfl
theorem mt_114 : mcc 114 = cX11_gone ∧ mnl 114 = 5 ∧ mrt 114 = (some .int) ∧ mci 114 = 11 := ⟨rfl, rfl, rfl, rfl⟩
theorem mcc_114 : mcc 114 = cX11_gone := rfl
theorem mci_114 : mci 114 = 11 := rfl
theorem mt_115 : mcc 115 = cX11_markTold ∧ mnl 115 = 4 ∧ mrt 115 = (some .int) ∧ mci 115 = 11 := ⟨rfl, rfl, rfl, rfl⟩
theorem mcc_115 : mcc 115 = cX11_markTold := rfl
theorem mci_115 : mci 115 = 11 := rfl
theorem mt_116 : mcc 116 = cX11_at ∧ mnl 116 = 3 ∧ mrt 116 = (some .int) ∧ mci 116 = 11 := ⟨rfl, rfl, rfl, rfl⟩
theorem mcc_116 : mcc 116 = cX11_at := rfl
theorem mci_116 : mci 116 = 11 := rfl
theorem mt_117 : mcc 117 = cX11_sight ∧ mnl 117 = 3 ∧ mrt 117 = (some .int) ∧ mci 117 = 11 := ⟨rfl, rfl, rfl, rfl⟩
theorem mcc_117 : mcc 117 = cX11_sight := rfl
theorem mci_117 : mci 117 = 11 := rfl
theorem mt_118 : mcc 118 = cX11_sees ∧ mnl 118 = 3 ∧ mrt 118 = (some .long) ∧ mci 118 = 11 := ⟨rfl, rfl, rfl, rfl⟩
theorem mcc_118 : mcc 118 = cX11_sees := rfl
theorem mci_118 : mci 118 = 11 := rfl
theorem mt_119 : mcc 119 = cX11_view ∧ mnl 119 = 3 ∧ mrt 119 = (some .long) ∧ mci 119 = 11 := ⟨rfl, rfl, rfl, rfl⟩
theorem mcc_119 : mcc 119 = cX11_view := rfl
theorem mci_119 : mci 119 = 11 := rfl
theorem mt_120 : mcc 120 = cX11_feed ∧ mnl 120 = 4 ∧ mrt 120 = (some .int) ∧ mci 120 = 11 := ⟨rfl, rfl, rfl, rfl⟩
theorem mcc_120 : mcc 120 = cX11_feed := rfl
theorem mci_120 : mci 120 = 11 := rfl
theorem mt_121 : mcc 121 = cX11_text ∧ mnl 121 = 1 ∧ mrt 121 = (some .int) ∧ mci 121 = 11 := ⟨rfl, rfl, rfl, rfl⟩
theorem mcc_121 : mcc 121 = cX11_text := rfl
theorem mci_121 : mci 121 = 11 := rfl
theorem mt_122 : mcc 122 = cX11_force ∧ mnl 122 = 4 ∧ mrt 122 = (some .int) ∧ mci 122 = 11 := ⟨rfl, rfl, rfl, rfl⟩
theorem mcc_122 : mcc 122 = cX11_force := rfl
theorem mci_122 : mci 122 = 11 := rfl
theorem mt_123 : mcc 123 = cX11_says ∧ mnl 123 = 5 ∧ mrt 123 = (some .long) ∧ mci 123 = 11 := ⟨rfl, rfl, rfl, rfl⟩
theorem mcc_123 : mcc 123 = cX11_says := rfl
theorem mci_123 : mci 123 = 11 := rfl
theorem mt_124 : mcc 124 = cX11_breaches ∧ mnl 124 = 3 ∧ mrt 124 = (some .int) ∧ mci 124 = 11 := ⟨rfl, rfl, rfl, rfl⟩
theorem mcc_124 : mcc 124 = cX11_breaches := rfl
theorem mci_124 : mci 124 = 11 := rfl
theorem mt_125 : mcc 125 = cX11_astray ∧ mnl 125 = 2 ∧ mrt 125 = (some .int) ∧ mci 125 = 11 := ⟨rfl, rfl, rfl, rfl⟩
theorem mcc_125 : mcc 125 = cX11_astray := rfl
theorem mci_125 : mci 125 = 11 := rfl
theorem mt_126 : mcc 126 = cX11_permit ∧ mnl 126 = 6 ∧ mrt 126 = (some .int) ∧ mci 126 = 11 := ⟨rfl, rfl, rfl, rfl⟩
theorem mcc_126 : mcc 126 = cX11_permit := rfl
theorem mci_126 : mci 126 = 11 := rfl
theorem mt_127 : mcc 127 = cX11_may ∧ mnl 127 = 4 ∧ mrt 127 = (some .int) ∧ mci 127 = 11 := ⟨rfl, rfl, rfl, rfl⟩
theorem mcc_127 : mcc 127 = cX11_may := rfl
theorem mci_127 : mci 127 = 11 := rfl
theorem mt_128 : mcc 128 = cX11_doing ∧ mnl 128 = 4 ∧ mrt 128 = (some .int) ∧ mci 128 = 11 := ⟨rfl, rfl, rfl, rfl⟩
theorem mcc_128 : mcc 128 = cX11_doing := rfl
theorem mci_128 : mci 128 = 11 := rfl
theorem mt_129 : mcc 129 = cX11_report ∧ mnl 129 = 5 ∧ mrt 129 = (some .int) ∧ mci 129 = 11 := ⟨rfl, rfl, rfl, rfl⟩
theorem mcc_129 : mcc 129 = cX11_report := rfl
theorem mci_129 : mci 129 = 11 := rfl
theorem mt_130 : mcc 130 = cX11_takeBack ∧ mnl 130 = 2 ∧ mrt 130 = (some .int) ∧ mci 130 = 11 := ⟨rfl, rfl, rfl, rfl⟩
theorem mcc_130 : mcc 130 = cX11_takeBack := rfl
theorem mci_130 : mci 130 = 11 := rfl
theorem mt_131 : mcc 131 = cX11_lets ∧ mnl 131 = 3 ∧ mrt 131 = (some .int) ∧ mci 131 = 11 := ⟨rfl, rfl, rfl, rfl⟩
theorem mcc_131 : mcc 131 = cX11_lets := rfl
theorem mci_131 : mci 131 = 11 := rfl
theorem mt_132 : mcc 132 = cX11_left ∧ mnl 132 = 1 ∧ mrt 132 = (some .int) ∧ mci 132 = 11 := ⟨rfl, rfl, rfl, rfl⟩
theorem mcc_132 : mcc 132 = cX11_left := rfl
theorem mci_132 : mci 132 = 11 := rfl
theorem mt_133 : mcc 133 = cX11_worst ∧ mnl 133 = 4 ∧ mrt 133 = (some .int) ∧ mci 133 = 11 := ⟨rfl, rfl, rfl, rfl⟩
theorem mcc_133 : mcc 133 = cX11_worst := rfl
theorem mci_133 : mci 133 = 11 := rfl
theorem mt_134 : mcc 134 = cX11_look ∧ mnl 134 = 2 ∧ mrt 134 = (some .int) ∧ mci 134 = 11 := ⟨rfl, rfl, rfl, rfl⟩
theorem mcc_134 : mcc 134 = cX11_look := rfl
theorem mci_134 : mci 134 = 11 := rfl
theorem mt_135 : mcc 135 = cX11_finding ∧ mnl 135 = 4 ∧ mrt 135 = (some .int) ∧ mci 135 = 11 := ⟨rfl, rfl, rfl, rfl⟩
theorem mcc_135 : mcc 135 = cX11_finding := rfl
theorem mci_135 : mci 135 = 11 := rfl
theorem mt_136 : mcc 136 = cX11_standing ∧ mnl 136 = 1 ∧ mrt 136 = (some .int) ∧ mci 136 = 11 := ⟨rfl, rfl, rfl, rfl⟩
theorem mcc_136 : mcc 136 = cX11_standing := rfl
theorem mci_136 : mci 136 = 11 := rfl
theorem mt_137 : mcc 137 = cX11_hold ∧ mnl 137 = 5 ∧ mrt 137 = (some .int) ∧ mci 137 = 11 := ⟨rfl, rfl, rfl, rfl⟩
theorem mcc_137 : mcc 137 = cX11_hold := rfl
theorem mci_137 : mci 137 = 11 := rfl
theorem mt_138 : mcc 138 = cX11_shots ∧ mnl 138 = 4 ∧ mrt 138 = (some .int) ∧ mci 138 = 11 := ⟨rfl, rfl, rfl, rfl⟩
theorem mcc_138 : mcc 138 = cX11_shots := rfl
theorem mci_138 : mci 138 = 11 := rfl
theorem mt_139 : mcc 139 = cX11_calm ∧ mnl 139 = 5 ∧ mrt 139 = (some .int) ∧ mci 139 = 11 := ⟨rfl, rfl, rfl, rfl⟩
theorem mcc_139 : mcc 139 = cX11_calm := rfl
theorem mci_139 : mci 139 = 11 := rfl
theorem mt_140 : mcc 140 = cX11_list ∧ mnl 140 = 2 ∧ mrt 140 = (some .int) ∧ mci 140 = 11 := ⟨rfl, rfl, rfl, rfl⟩
theorem mcc_140 : mcc 140 = cX11_list := rfl
theorem mci_140 : mci 140 = 11 := rfl
theorem mt_141 : mcc 141 = cX11_cover ∧ mnl 141 = 5 ∧ mrt 141 = (some .int) ∧ mci 141 = 11 := ⟨rfl, rfl, rfl, rfl⟩
theorem mcc_141 : mcc 141 = cX11_cover := rfl
theorem mci_141 : mci 141 = 11 := rfl
theorem mt_142 : mcc 142 = cX11_drawBack ∧ mnl 142 = 4 ∧ mrt 142 = (some .int) ∧ mci 142 = 11 := ⟨rfl, rfl, rfl, rfl⟩
theorem mcc_142 : mcc 142 = cX11_drawBack := rfl
theorem mci_142 : mci 142 = 11 := rfl
theorem mt_143 : mcc 143 = cX11_strength ∧ mnl 143 = 2 ∧ mrt 143 = (some .int) ∧ mci 143 = 11 := ⟨rfl, rfl, rfl, rfl⟩
theorem mcc_143 : mcc 143 = cX11_strength := rfl
theorem mci_143 : mci 143 = 11 := rfl
theorem mt_144 : mcc 144 = cX11_protest ∧ mnl 144 = 4 ∧ mrt 144 = (some .int) ∧ mci 144 = 11 := ⟨rfl, rfl, rfl, rfl⟩
theorem mcc_144 : mcc 144 = cX11_protest := rfl
theorem mci_144 : mci 144 = 11 := rfl
theorem mt_145 : mcc 145 = cX11_answer ∧ mnl 145 = 3 ∧ mrt 145 = (some .int) ∧ mci 145 = 11 := ⟨rfl, rfl, rfl, rfl⟩
theorem mcc_145 : mcc 145 = cX11_answer := rfl
theorem mci_145 : mci 145 = 11 := rfl
theorem mt_146 : mcc 146 = cX11_late ∧ mnl 146 = 2 ∧ mrt 146 = (some .int) ∧ mci 146 = 11 := ⟨rfl, rfl, rfl, rfl⟩
theorem mcc_146 : mcc 146 = cX11_late := rfl
theorem mci_146 : mci 146 = 11 := rfl
theorem mt_147 : mcc 147 = cX11_blame ∧ mnl 147 = 2 ∧ mrt 147 = (some .int) ∧ mci 147 = 11 := ⟨rfl, rfl, rfl, rfl⟩
theorem mcc_147 : mcc 147 = cX11_blame := rfl
theorem mci_147 : mci 147 = 11 := rfl
theorem mt_148 : mcc 148 = cX11_listed ∧ mnl 148 = 4 ∧ mrt 148 = (some .int) ∧ mci 148 = 11 := ⟨rfl, rfl, rfl, rfl⟩
theorem mcc_148 : mcc 148 = cX11_listed := rfl
theorem mci_148 : mci 148 = 11 := rfl
theorem mt_149 : mcc 149 = cX11_alone ∧ mnl 149 = 2 ∧ mrt 149 = (some .long) ∧ mci 149 = 11 := ⟨rfl, rfl, rfl, rfl⟩
theorem mcc_149 : mcc 149 = cX11_alone := rfl
theorem mci_149 : mci 149 = 11 := rfl
theorem mt_150 : mcc 150 = cX11_count ∧ mnl 150 = 2 ∧ mrt 150 = (some .int) ∧ mci 150 = 11 := ⟨rfl, rfl, rfl, rfl⟩
theorem mcc_150 : mcc 150 = cX11_count := rfl
theorem mci_150 : mci 150 = 11 := rfl
theorem mt_151 : mcc 151 = cX11_sheet ∧ mnl 151 = 4 ∧ mrt 151 = (some .int) ∧ mci 151 = 11 := ⟨rfl, rfl, rfl, rfl⟩
theorem mcc_151 : mcc 151 = cX11_sheet := rfl
theorem mci_151 : mci 151 = 11 := rfl
theorem mt_152 : mcc 152 = cX11_cell ∧ mnl 152 = 5 ∧ mrt 152 = (some .int) ∧ mci 152 = 11 := ⟨rfl, rfl, rfl, rfl⟩
theorem mcc_152 : mcc 152 = cX11_cell := rfl
theorem mci_152 : mci 152 = 11 := rfl
theorem mt_153 : mcc 153 = cX11_copy ∧ mnl 153 = 8 ∧ mrt 153 = (some .int) ∧ mci 153 = 11 := ⟨rfl, rfl, rfl, rfl⟩
theorem mcc_153 : mcc 153 = cX11_copy := rfl
theorem mci_153 : mci 153 = 11 := rfl
theorem mt_154 : mcc 154 = cX11_heights ∧ mnl 154 = 7 ∧ mrt 154 = (some .int) ∧ mci 154 = 11 := ⟨rfl, rfl, rfl, rfl⟩
theorem mcc_154 : mcc 154 = cX11_heights := rfl
theorem mci_154 : mci 154 = 11 := rfl
theorem mt_155 : mcc 155 = cX11_taken ∧ mnl 155 = 4 ∧ mrt 155 = (some .int) ∧ mci 155 = 11 := ⟨rfl, rfl, rfl, rfl⟩
theorem mcc_155 : mcc 155 = cX11_taken := rfl
theorem mci_155 : mci 155 = 11 := rfl
theorem mt_156 : mcc 156 = cX11_tellHeights ∧ mnl 156 = 9 ∧ mrt 156 = (some .int) ∧ mci 156 = 11 := ⟨rfl, rfl, rfl, rfl⟩
theorem mcc_156 : mcc 156 = cX11_tellHeights := rfl
theorem mci_156 : mci 156 = 11 := rfl
theorem mt_157 : mcc 157 = cX11_isWithin ∧ mnl 157 = 3 ∧ mrt 157 = (some .boolean) ∧ mci 157 = 11 := ⟨rfl, rfl, rfl, rfl⟩
theorem mcc_157 : mcc 157 = cX11_isWithin := rfl
theorem mci_157 : mci 157 = 11 := rfl
theorem mt_158 : mcc 158 = cX11_isCell ∧ mnl 158 = 1 ∧ mrt 158 = (some .boolean) ∧ mci 158 = 11 := ⟨rfl, rfl, rfl, rfl⟩
theorem mcc_158 : mcc 158 = cX11_isCell := rfl
theorem mci_158 : mci 158 = 11 := rfl
theorem mt_159 : mcc 159 = cX11_isHour ∧ mnl 159 = 1 ∧ mrt 159 = (some .boolean) ∧ mci 159 = 11 := ⟨rfl, rfl, rfl, rfl⟩
theorem mcc_159 : mcc 159 = cX11_isHour := rfl
theorem mci_159 : mci 159 = 11 := rfl
theorem mt_160 : mcc 160 = cX11_isSide ∧ mnl 160 = 1 ∧ mrt 160 = (some .boolean) ∧ mci 160 = 11 := ⟨rfl, rfl, rfl, rfl⟩
theorem mcc_160 : mcc 160 = cX11_isSide := rfl
theorem mci_160 : mci 160 = 11 := rfl
theorem mt_161 : mcc 161 = cX11_isArmy ∧ mnl 161 = 1 ∧ mrt 161 = (some .boolean) ∧ mci 161 = 11 := ⟨rfl, rfl, rfl, rfl⟩
theorem mcc_161 : mcc 161 = cX11_isArmy := rfl
theorem mci_161 : mci 161 = 11 := rfl
theorem mt_162 : mcc 162 = cX11_isBit ∧ mnl 162 = 1 ∧ mrt 162 = (some .boolean) ∧ mci 162 = 11 := ⟨rfl, rfl, rfl, rfl⟩
theorem mcc_162 : mcc 162 = cX11_isBit := rfl
theorem mci_162 : mci 162 = 11 := rfl
theorem mt_163 : mcc 163 = cX11_isKind ∧ mnl 163 = 1 ∧ mrt 163 = (some .boolean) ∧ mci 163 = 11 := ⟨rfl, rfl, rfl, rfl⟩
theorem mcc_163 : mcc 163 = cX11_isKind := rfl
theorem mci_163 : mci 163 = 11 := rfl
theorem mt_164 : mcc 164 = cX11_isSheet ∧ mnl 164 = 1 ∧ mrt 164 = (some .boolean) ∧ mci 164 = 11 := ⟨rfl, rfl, rfl, rfl⟩
theorem mcc_164 : mcc 164 = cX11_isSheet := rfl
theorem mci_164 : mci 164 = 11 := rfl
theorem mt_165 : mcc 165 = cX11_isSetOf ∧ mnl 165 = 2 ∧ mrt 165 = (some .boolean) ∧ mci 165 = 11 := ⟨rfl, rfl, rfl, rfl⟩
theorem mcc_165 : mcc 165 = cX11_isSetOf := rfl
theorem mci_165 : mci 165 = 11 := rfl
theorem mt_166 : mcc 166 = cX11_isIn ∧ mnl 166 = 2 ∧ mrt 166 = (some .boolean) ∧ mci 166 = 11 := ⟨rfl, rfl, rfl, rfl⟩
theorem mcc_166 : mcc 166 = cX11_isIn := rfl
theorem mci_166 : mci 166 = 11 := rfl
theorem mt_167 : mcc 167 = cX11_bit ∧ mnl 167 = 1 ∧ mrt 167 = (some .int) ∧ mci 167 = 11 := ⟨rfl, rfl, rfl, rfl⟩
theorem mcc_167 : mcc 167 = cX11_bit := rfl
theorem mci_167 : mci 167 = 11 := rfl
theorem mt_168 : mcc 168 = cX11_apartOf ∧ mnl 168 = 2 ∧ mrt 168 = (some .int) ∧ mci 168 = 11 := ⟨rfl, rfl, rfl, rfl⟩
theorem mcc_168 : mcc 168 = cX11_apartOf := rfl
theorem mci_168 : mci 168 = 11 := rfl
theorem mt_169 : mcc 169 = cX11_isNight ∧ mnl 169 = 2 ∧ mrt 169 = (some .boolean) ∧ mci 169 = 11 := ⟨rfl, rfl, rfl, rfl⟩
theorem mcc_169 : mcc 169 = cX11_isNight := rfl
theorem mci_169 : mci 169 = 11 := rfl
theorem mt_170 : mcc 170 = cX12_in ∧ mnl 170 = 4 ∧ mrt 170 = (some .boolean) ∧ mci 170 = 12 := ⟨rfl, rfl, rfl, rfl⟩
theorem mcc_170 : mcc 170 = cX12_in := rfl
theorem mci_170 : mci 170 = 12 := rfl
theorem mt_171 : mcc 171 = cX12_init ∧ mnl 171 = 2 ∧ mrt 171 = none ∧ mci 171 = 12 := ⟨rfl, rfl, rfl, rfl⟩
theorem mcc_171 : mcc 171 = cX12_init := rfl
theorem mci_171 : mci 171 = 12 := rfl
theorem mt_172 : mcc 172 = cX12_isCell ∧ mnl 172 = 2 ∧ mrt 172 = (some .boolean) ∧ mci 172 = 12 := ⟨rfl, rfl, rfl, rfl⟩
theorem mcc_172 : mcc 172 = cX12_isCell := rfl
theorem mci_172 : mci 172 = 12 := rfl
theorem mt_173 : mcc 173 = cX12_isHour ∧ mnl 173 = 2 ∧ mrt 173 = (some .boolean) ∧ mci 173 = 12 := ⟨rfl, rfl, rfl, rfl⟩
theorem mcc_173 : mcc 173 = cX12_isHour := rfl
theorem mci_173 : mci 173 = 12 := rfl
theorem mt_174 : mcc 174 = cX12_height ∧ mnl 174 = 4 ∧ mrt 174 = (some .int) ∧ mci 174 = 12 := ⟨rfl, rfl, rfl, rfl⟩
theorem mcc_174 : mcc 174 = cX12_height := rfl
theorem mci_174 : mci 174 = 12 := rfl
theorem mt_175 : mcc 175 = cX12_line ∧ mnl 175 = 4 ∧ mrt 175 = (some .int) ∧ mci 175 = 12 := ⟨rfl, rfl, rfl, rfl⟩
theorem mcc_175 : mcc 175 = cX12_line := rfl
theorem mci_175 : mci 175 = 12 := rfl
theorem mt_176 : mcc 176 = cX12_set ∧ mnl 176 = 4 ∧ mrt 176 = (some .int) ∧ mci 176 = 12 := ⟨rfl, rfl, rfl, rfl⟩
theorem mcc_176 : mcc 176 = cX12_set := rfl
theorem mci_176 : mci 176 = 12 := rfl
theorem mt_177 : mcc 177 = cX12_sideAt ∧ mnl 177 = 2 ∧ mrt 177 = (some .int) ∧ mci 177 = 12 := ⟨rfl, rfl, rfl, rfl⟩
theorem mcc_177 : mcc 177 = cX12_sideAt := rfl
theorem mci_177 : mci 177 = 12 := rfl
theorem mt_178 : mcc 178 = cX12_farAt ∧ mnl 178 = 2 ∧ mrt 178 = (some .int) ∧ mci 178 = 12 := ⟨rfl, rfl, rfl, rfl⟩
theorem mcc_178 : mcc 178 = cX12_farAt := rfl
theorem mci_178 : mci 178 = 12 := rfl
theorem mt_179 : mcc 179 = cX12_cellTold ∧ mnl 179 = 3 ∧ mrt 179 = (some .int) ∧ mci 179 = 12 := ⟨rfl, rfl, rfl, rfl⟩
theorem mcc_179 : mcc 179 = cX12_cellTold := rfl
theorem mci_179 : mci 179 = 12 := rfl
theorem mt_180 : mcc 180 = cX12_abs ∧ mnl 180 = 2 ∧ mrt 180 = (some .int) ∧ mci 180 = 12 := ⟨rfl, rfl, rfl, rfl⟩
theorem mcc_180 : mcc 180 = cX12_abs := rfl
theorem mci_180 : mci 180 = 12 := rfl
theorem mt_181 : mcc 181 = cX12_apart ∧ mnl 181 = 5 ∧ mrt 181 = (some .int) ∧ mci 181 = 12 := ⟨rfl, rfl, rfl, rfl⟩
theorem mcc_181 : mcc 181 = cX12_apart := rfl
theorem mci_181 : mci 181 = 12 := rfl
theorem mt_182 : mcc 182 = cX12_isNight ∧ mnl 182 = 2 ∧ mrt 182 = (some .boolean) ∧ mci 182 = 12 := ⟨rfl, rfl, rfl, rfl⟩
theorem mcc_182 : mcc 182 = cX12_isNight := rfl
theorem mci_182 : mci 182 = 12 := rfl
theorem mt_183 : mcc 183 = cX12_isMark ∧ mnl 183 = 2 ∧ mrt 183 = (some .boolean) ∧ mci 183 = 12 := ⟨rfl, rfl, rfl, rfl⟩
theorem mcc_183 : mcc 183 = cX12_isMark := rfl
theorem mci_183 : mci 183 = 12 := rfl
theorem mt_184 : mcc 184 = cX12_mark ∧ mnl 184 = 5 ∧ mrt 184 = (some .int) ∧ mci 184 = 12 := ⟨rfl, rfl, rfl, rfl⟩
theorem mcc_184 : mcc 184 = cX12_mark := rfl
theorem mci_184 : mci 184 = 12 := rfl
theorem mt_185 : mcc 185 = cX12_isUnder ∧ mnl 185 = 3 ∧ mrt 185 = (some .boolean) ∧ mci 185 = 12 := ⟨rfl, rfl, rfl, rfl⟩
theorem mcc_185 : mcc 185 = cX12_isUnder := rfl
theorem mci_185 : mci 185 = 12 := rfl
theorem mt_186 : mcc 186 = cX12_walk ∧ mnl 186 = 3 ∧ mrt 186 = (some .int) ∧ mci 186 = 12 := ⟨rfl, rfl, rfl, rfl⟩
theorem mcc_186 : mcc 186 = cX12_walk := rfl
theorem mci_186 : mci 186 = 12 := rfl
theorem mt_187 : mcc 187 = cX12_gone ∧ mnl 187 = 4 ∧ mrt 187 = (some .int) ∧ mci 187 = 12 := ⟨rfl, rfl, rfl, rfl⟩
theorem mcc_187 : mcc 187 = cX12_gone := rfl
theorem mci_187 : mci 187 = 12 := rfl
theorem mt_188 : mcc 188 = cX12_earOf ∧ mnl 188 = 2 ∧ mrt 188 = (some .int) ∧ mci 188 = 12 := ⟨rfl, rfl, rfl, rfl⟩
theorem mcc_188 : mcc 188 = cX12_earOf := rfl
theorem mci_188 : mci 188 = 12 := rfl
theorem mt_189 : mcc 189 = cX12_markTold ∧ mnl 189 = 3 ∧ mrt 189 = (some .int) ∧ mci 189 = 12 := ⟨rfl, rfl, rfl, rfl⟩
theorem mcc_189 : mcc 189 = cX12_markTold := rfl
theorem mci_189 : mci 189 = 12 := rfl
theorem mt_190 : mcc 190 = cX12_cellOf ∧ mnl 190 = 3 ∧ mrt 190 = (some .int) ∧ mci 190 = 12 := ⟨rfl, rfl, rfl, rfl⟩
theorem mcc_190 : mcc 190 = cX12_cellOf := rfl
theorem mci_190 : mci 190 = 12 := rfl
theorem mt_191 : mcc 191 = cX12_at ∧ mnl 191 = 3 ∧ mrt 191 = (some .int) ∧ mci 191 = 12 := ⟨rfl, rfl, rfl, rfl⟩
theorem mcc_191 : mcc 191 = cX12_at := rfl
theorem mci_191 : mci 191 = 12 := rfl
theorem mt_192 : mcc 192 = cX12_sightOf ∧ mnl 192 = 6 ∧ mrt 192 = (some .int) ∧ mci 192 = 12 := ⟨rfl, rfl, rfl, rfl⟩
theorem mcc_192 : mcc 192 = cX12_sightOf := rfl
theorem mci_192 : mci 192 = 12 := rfl
theorem mt_193 : mcc 193 = cX12_sight ∧ mnl 193 = 3 ∧ mrt 193 = (some .int) ∧ mci 193 = 12 := ⟨rfl, rfl, rfl, rfl⟩
theorem mcc_193 : mcc 193 = cX12_sight := rfl
theorem mci_193 : mci 193 = 12 := rfl
theorem mt_194 : mcc 194 = cX12_isClear ∧ mnl 194 = 8 ∧ mrt 194 = (some .boolean) ∧ mci 194 = 12 := ⟨rfl, rfl, rfl, rfl⟩
theorem mcc_194 : mcc 194 = cX12_isClear := rfl
theorem mci_194 : mci 194 = 12 := rfl
theorem mt_195 : mcc 195 = cX12_seenFrom ∧ mnl 195 = 8 ∧ mrt 195 = (some .long) ∧ mci 195 = 12 := ⟨rfl, rfl, rfl, rfl⟩
theorem mcc_195 : mcc 195 = cX12_seenFrom := rfl
theorem mci_195 : mci 195 = 12 := rfl
theorem mt_196 : mcc 196 = cX12_seenBy ∧ mnl 196 = 3 ∧ mrt 196 = (some .long) ∧ mci 196 = 12 := ⟨rfl, rfl, rfl, rfl⟩
theorem mcc_196 : mcc 196 = cX12_seenBy := rfl
theorem mci_196 : mci 196 = 12 := rfl
theorem mt_197 : mcc 197 = cX12_sees ∧ mnl 197 = 3 ∧ mrt 197 = (some .long) ∧ mci 197 = 12 := ⟨rfl, rfl, rfl, rfl⟩
theorem mcc_197 : mcc 197 = cX12_sees := rfl
theorem mci_197 : mci 197 = 12 := rfl
theorem mt_198 : mcc 198 = cX12_viewOf ∧ mnl 198 = 6 ∧ mrt 198 = (some .long) ∧ mci 198 = 12 := ⟨rfl, rfl, rfl, rfl⟩
theorem mcc_198 : mcc 198 = cX12_viewOf := rfl
theorem mci_198 : mci 198 = 12 := rfl
theorem mt_199 : mcc 199 = cX12_view ∧ mnl 199 = 3 ∧ mrt 199 = (some .long) ∧ mci 199 = 12 := ⟨rfl, rfl, rfl, rfl⟩
theorem mcc_199 : mcc 199 = cX12_view := rfl
theorem mci_199 : mci 199 = 12 := rfl
theorem mt_200 : mcc 200 = cX12_ruleZero ∧ mnl 200 = 1 ∧ mrt 200 = none ∧ mci 200 = 12 := ⟨rfl, rfl, rfl, rfl⟩
theorem mcc_200 : mcc 200 = cX12_ruleZero := rfl
theorem mci_200 : mci 200 = 12 := rfl
theorem mt_201 : mcc 201 = cX12_feed ∧ mnl 201 = 5 ∧ mrt 201 = (some .int) ∧ mci 201 = 12 := ⟨rfl, rfl, rfl, rfl⟩
theorem mcc_201 : mcc 201 = cX12_feed := rfl
theorem mci_201 : mci 201 = 12 := rfl
theorem mt_202 : mcc 202 = cX12_isLetter ∧ mnl 202 = 2 ∧ mrt 202 = (some .boolean) ∧ mci 202 = 12 := ⟨rfl, rfl, rfl, rfl⟩
theorem mcc_202 : mcc 202 = cX12_isLetter := rfl
theorem mci_202 : mci 202 = 12 := rfl
theorem mt_203 : mcc 203 = cX12_isDigit ∧ mnl 203 = 2 ∧ mrt 203 = (some .boolean) ∧ mci 203 = 12 := ⟨rfl, rfl, rfl, rfl⟩
theorem mcc_203 : mcc 203 = cX12_isDigit := rfl
theorem mci_203 : mci 203 = 12 := rfl
theorem mt_204 : mcc 204 = cX12_isWord ∧ mnl 204 = 6 ∧ mrt 204 = (some .boolean) ∧ mci 204 = 12 := ⟨rfl, rfl, rfl, rfl⟩
theorem mcc_204 : mcc 204 = cX12_isWord := rfl
theorem mci_204 : mci 204 = 12 := rfl
theorem mt_205 : mcc 205 = cX12_wordToken ∧ mnl 205 = 1 ∧ mrt 205 = none ∧ mci 205 = 12 := ⟨rfl, rfl, rfl, rfl⟩
theorem mcc_205 : mcc 205 = cX12_wordToken := rfl
theorem mci_205 : mci 205 = 12 := rfl
theorem mt_206 : mcc 206 = cX12_next ∧ mnl 206 = 2 ∧ mrt 206 = none ∧ mci 206 = 12 := ⟨rfl, rfl, rfl, rfl⟩
theorem mcc_206 : mcc 206 = cX12_next := rfl
theorem mci_206 : mci 206 = 12 := rfl
theorem mt_207 : mcc 207 = cX12_isKey ∧ mnl 207 = 2 ∧ mrt 207 = (some .boolean) ∧ mci 207 = 12 := ⟨rfl, rfl, rfl, rfl⟩
theorem mcc_207 : mcc 207 = cX12_isKey := rfl
theorem mci_207 : mci 207 = 12 := rfl
theorem mt_208 : mcc 208 = cX12_isSign ∧ mnl 208 = 2 ∧ mrt 208 = (some .boolean) ∧ mci 208 = 12 := ⟨rfl, rfl, rfl, rfl⟩
theorem mcc_208 : mcc 208 = cX12_isSign := rfl
theorem mci_208 : mci 208 = 12 := rfl
theorem mt_209 : mcc 209 = cX12_put ∧ mnl 209 = 2 ∧ mrt 209 = none ∧ mci 209 = 12 := ⟨rfl, rfl, rfl, rfl⟩
theorem mcc_209 : mcc 209 = cX12_put := rfl
theorem mci_209 : mci 209 = 12 := rfl
theorem mt_210 : mcc 210 = cX12_rank ∧ mnl 210 = 2 ∧ mrt 210 = (some .int) ∧ mci 210 = 12 := ⟨rfl, rfl, rfl, rfl⟩
theorem mcc_210 : mcc 210 = cX12_rank := rfl
theorem mci_210 : mci 210 = 12 := rfl
theorem mt_211 : mcc 211 = cX12_settle ∧ mnl 211 = 2 ∧ mrt 211 = none ∧ mci 211 = 12 := ⟨rfl, rfl, rfl, rfl⟩
theorem mcc_211 : mcc 211 = cX12_settle := rfl
theorem mci_211 : mci 211 = 12 := rfl
theorem mt_212 : mcc 212 = cX12_hold ∧ mnl 212 = 2 ∧ mrt 212 = none ∧ mci 212 = 12 := ⟨rfl, rfl, rfl, rfl⟩
theorem mcc_212 : mcc 212 = cX12_hold := rfl
theorem mci_212 : mci 212 = 12 := rfl
theorem mt_213 : mcc 213 = cX12_ahead ∧ mnl 213 = 2 ∧ mrt 213 = (some .boolean) ∧ mci 213 = 12 := ⟨rfl, rfl, rfl, rfl⟩
theorem mcc_213 : mcc 213 = cX12_ahead := rfl
theorem mci_213 : mci 213 = 12 := rfl
theorem mt_214 : mcc 214 = cX12_signOf ∧ mnl 214 = 1 ∧ mrt 214 = (some .int) ∧ mci 214 = 12 := ⟨rfl, rfl, rfl, rfl⟩
theorem mcc_214 : mcc 214 = cX12_signOf := rfl
theorem mci_214 : mci 214 = 12 := rfl
theorem mt_215 : mcc 215 = cX12_part ∧ mnl 215 = 4 ∧ mrt 215 = (some .boolean) ∧ mci 215 = 12 := ⟨rfl, rfl, rfl, rfl⟩
theorem mcc_215 : mcc 215 = cX12_part := rfl
theorem mci_215 : mci 215 = 12 := rfl
theorem mt_216 : mcc 216 = cX12_isText ∧ mnl 216 = 2 ∧ mrt 216 = (some .boolean) ∧ mci 216 = 12 := ⟨rfl, rfl, rfl, rfl⟩
theorem mcc_216 : mcc 216 = cX12_isText := rfl
theorem mci_216 : mci 216 = 12 := rfl
theorem mt_217 : mcc 217 = cX12_text ∧ mnl 217 = 3 ∧ mrt 217 = (some .int) ∧ mci 217 = 12 := ⟨rfl, rfl, rfl, rfl⟩
theorem mcc_217 : mcc 217 = cX12_text := rfl
theorem mci_217 : mci 217 = 12 := rfl
theorem mt_218 : mcc 218 = cX12_force ∧ mnl 218 = 4 ∧ mrt 218 = (some .int) ∧ mci 218 = 12 := ⟨rfl, rfl, rfl, rfl⟩
theorem mcc_218 : mcc 218 = cX12_force := rfl
theorem mci_218 : mci 218 = 12 := rfl
theorem mt_219 : mcc 219 = cX12_both ∧ mnl 219 = 4 ∧ mrt 219 = (some .int) ∧ mci 219 = 12 := ⟨rfl, rfl, rfl, rfl⟩
theorem mcc_219 : mcc 219 = cX12_both := rfl
theorem mci_219 : mci 219 = 12 := rfl
theorem mt_220 : mcc 220 = cX12_work ∧ mnl 220 = 7 ∧ mrt 220 = (some .int) ∧ mci 220 = 12 := ⟨rfl, rfl, rfl, rfl⟩
theorem mcc_220 : mcc 220 = cX12_work := rfl
theorem mci_220 : mci 220 = 12 := rfl
theorem mt_221 : mcc 221 = cX12_ask ∧ mnl 221 = 6 ∧ mrt 221 = (some .int) ∧ mci 221 = 12 := ⟨rfl, rfl, rfl, rfl⟩
theorem mcc_221 : mcc 221 = cX12_ask := rfl
theorem mci_221 : mci 221 = 12 := rfl
theorem mt_222 : mcc 222 = cX12_says ∧ mnl 222 = 5 ∧ mrt 222 = (some .long) ∧ mci 222 = 12 := ⟨rfl, rfl, rfl, rfl⟩
theorem mcc_222 : mcc 222 = cX12_says := rfl
theorem mci_222 : mci 222 = 12 := rfl
theorem mt_223 : mcc 223 = cX12_breaches ∧ mnl 223 = 7 ∧ mrt 223 = (some .int) ∧ mci 223 = 12 := ⟨rfl, rfl, rfl, rfl⟩
theorem mcc_223 : mcc 223 = cX12_breaches := rfl
theorem mci_223 : mci 223 = 12 := rfl
theorem mt_224 : mcc 224 = cX12_astray ∧ mnl 224 = 4 ∧ mrt 224 = (some .int) ∧ mci 224 = 12 := ⟨rfl, rfl, rfl, rfl⟩
theorem mcc_224 : mcc 224 = cX12_astray := rfl
theorem mci_224 : mci 224 = 12 := rfl
theorem mt_225 : mcc 225 = cX12_permit ∧ mnl 225 = 6 ∧ mrt 225 = (some .int) ∧ mci 225 = 12 := ⟨rfl, rfl, rfl, rfl⟩
theorem mcc_225 : mcc 225 = cX12_permit := rfl
theorem mci_225 : mci 225 = 12 := rfl
theorem mt_226 : mcc 226 = cX12_may ∧ mnl 226 = 5 ∧ mrt 226 = (some .int) ∧ mci 226 = 12 := ⟨rfl, rfl, rfl, rfl⟩
theorem mcc_226 : mcc 226 = cX12_may := rfl
theorem mci_226 : mci 226 = 12 := rfl
theorem mt_227 : mcc 227 = cX12_isDoing ∧ mnl 227 = 2 ∧ mrt 227 = (some .boolean) ∧ mci 227 = 12 := ⟨rfl, rfl, rfl, rfl⟩
theorem mcc_227 : mcc 227 = cX12_isDoing := rfl
theorem mci_227 : mci 227 = 12 := rfl
theorem mt_228 : mcc 228 = cX12_doing ∧ mnl 228 = 4 ∧ mrt 228 = (some .int) ∧ mci 228 = 12 := ⟨rfl, rfl, rfl, rfl⟩
theorem mcc_228 : mcc 228 = cX12_doing := rfl
theorem mci_228 : mci 228 = 12 := rfl
theorem mt_229 : mcc 229 = cX12_loud ∧ mnl 229 = 2 ∧ mrt 229 = (some .int) ∧ mci 229 = 12 := ⟨rfl, rfl, rfl, rfl⟩
theorem mcc_229 : mcc 229 = cX12_loud := rfl
theorem mci_229 : mci 229 = 12 := rfl
theorem mt_230 : mcc 230 = cX12_knows ∧ mnl 230 = 5 ∧ mrt 230 = (some .boolean) ∧ mci 230 = 12 := ⟨rfl, rfl, rfl, rfl⟩
theorem mcc_230 : mcc 230 = cX12_knows := rfl
theorem mci_230 : mci 230 = 12 := rfl
theorem mt_231 : mcc 231 = cX12_report ∧ mnl 231 = 5 ∧ mrt 231 = (some .int) ∧ mci 231 = 12 := ⟨rfl, rfl, rfl, rfl⟩
theorem mcc_231 : mcc 231 = cX12_report := rfl
theorem mci_231 : mci 231 = 12 := rfl
theorem mt_232 : mcc 232 = cX12_takeBack ∧ mnl 232 = 4 ∧ mrt 232 = (some .int) ∧ mci 232 = 12 := ⟨rfl, rfl, rfl, rfl⟩
theorem mcc_232 : mcc 232 = cX12_takeBack := rfl
theorem mci_232 : mci 232 = 12 := rfl
theorem mt_233 : mcc 233 = cX12_isLet ∧ mnl 233 = 3 ∧ mrt 233 = (some .boolean) ∧ mci 233 = 12 := ⟨rfl, rfl, rfl, rfl⟩
theorem mcc_233 : mcc 233 = cX12_isLet := rfl
theorem mci_233 : mci 233 = 12 := rfl
theorem mt_234 : mcc 234 = cX12_lets ∧ mnl 234 = 3 ∧ mrt 234 = (some .int) ∧ mci 234 = 12 := ⟨rfl, rfl, rfl, rfl⟩
theorem mcc_234 : mcc 234 = cX12_lets := rfl
theorem mci_234 : mci 234 = 12 := rfl
theorem mt_235 : mcc 235 = cX12_left ∧ mnl 235 = 5 ∧ mrt 235 = (some .int) ∧ mci 235 = 12 := ⟨rfl, rfl, rfl, rfl⟩
theorem mcc_235 : mcc 235 = cX12_left := rfl
theorem mci_235 : mci 235 = 12 := rfl
theorem mt_236 : mcc 236 = cX12_worstOf ∧ mnl 236 = 8 ∧ mrt 236 = (some .int) ∧ mci 236 = 12 := ⟨rfl, rfl, rfl, rfl⟩
theorem mcc_236 : mcc 236 = cX12_worstOf := rfl
theorem mci_236 : mci 236 = 12 := rfl
theorem mt_237 : mcc 237 = cX12_worst ∧ mnl 237 = 4 ∧ mrt 237 = (some .int) ∧ mci 237 = 12 := ⟨rfl, rfl, rfl, rfl⟩
theorem mcc_237 : mcc 237 = cX12_worst := rfl
theorem mci_237 : mci 237 = 12 := rfl
theorem mt_238 : mcc 238 = cX12_look ∧ mnl 238 = 7 ∧ mrt 238 = (some .int) ∧ mci 238 = 12 := ⟨rfl, rfl, rfl, rfl⟩
theorem mcc_238 : mcc 238 = cX12_look := rfl
theorem mci_238 : mci 238 = 12 := rfl
theorem mt_239 : mcc 239 = cX12_finding ∧ mnl 239 = 4 ∧ mrt 239 = (some .int) ∧ mci 239 = 12 := ⟨rfl, rfl, rfl, rfl⟩
theorem mcc_239 : mcc 239 = cX12_finding := rfl
theorem mci_239 : mci 239 = 12 := rfl
theorem mt_240 : mcc 240 = cX12_standing ∧ mnl 240 = 5 ∧ mrt 240 = (some .int) ∧ mci 240 = 12 := ⟨rfl, rfl, rfl, rfl⟩
theorem mcc_240 : mcc 240 = cX12_standing := rfl
theorem mci_240 : mci 240 = 12 := rfl
theorem mt_241 : mcc 241 = cX12_hold_ ∧ mnl 241 = 4 ∧ mrt 241 = (some .int) ∧ mci 241 = 12 := ⟨rfl, rfl, rfl, rfl⟩
theorem mcc_241 : mcc 241 = cX12_hold_ := rfl
theorem mci_241 : mci 241 = 12 := rfl
theorem mt_242 : mcc 242 = cX12_shooting ∧ mnl 242 = 11 ∧ mrt 242 = (some .int) ∧ mci 242 = 12 := ⟨rfl, rfl, rfl, rfl⟩
theorem mcc_242 : mcc 242 = cX12_shooting := rfl
theorem mci_242 : mci 242 = 12 := rfl
theorem mt_243 : mcc 243 = cX12_canShoot ∧ mnl 243 = 3 ∧ mrt 243 = (some .boolean) ∧ mci 243 = 12 := ⟨rfl, rfl, rfl, rfl⟩
theorem mcc_243 : mcc 243 = cX12_canShoot := rfl
theorem mci_243 : mci 243 = 12 := rfl
theorem mt_244 : mcc 244 = cX12_shots ∧ mnl 244 = 4 ∧ mrt 244 = (some .int) ∧ mci 244 = 12 := ⟨rfl, rfl, rfl, rfl⟩
theorem mcc_244 : mcc 244 = cX12_shots := rfl
theorem mci_244 : mci 244 = 12 := rfl
theorem mt_245 : mcc 245 = cX12_ones ∧ mnl 245 = 4 ∧ mrt 245 = (some .int) ∧ mci 245 = 12 := ⟨rfl, rfl, rfl, rfl⟩
theorem mcc_245 : mcc 245 = cX12_ones := rfl
theorem mci_245 : mci 245 = 12 := rfl
theorem mt_246 : mcc 246 = cX12_calm ∧ mnl 246 = 7 ∧ mrt 246 = (some .int) ∧ mci 246 = 12 := ⟨rfl, rfl, rfl, rfl⟩
theorem mcc_246 : mcc 246 = cX12_calm := rfl
theorem mci_246 : mci 246 = 12 := rfl
theorem mt_247 : mcc 247 = cX12_list ∧ mnl 247 = 2 ∧ mrt 247 = (some .int) ∧ mci 247 = 12 := ⟨rfl, rfl, rfl, rfl⟩
theorem mcc_247 : mcc 247 = cX12_list := rfl
theorem mci_247 : mci 247 = 12 := rfl
theorem mt_248 : mcc 248 = cX12_bitsOf ∧ mnl 248 = 6 ∧ mrt 248 = (some .int) ∧ mci 248 = 12 := ⟨rfl, rfl, rfl, rfl⟩
theorem mcc_248 : mcc 248 = cX12_bitsOf := rfl
theorem mci_248 : mci 248 = 12 := rfl
theorem mt_249 : mcc 249 = cX12_coveredBy ∧ mnl 249 = 5 ∧ mrt 249 = (some .int) ∧ mci 249 = 12 := ⟨rfl, rfl, rfl, rfl⟩
theorem mcc_249 : mcc 249 = cX12_coveredBy := rfl
theorem mci_249 : mci 249 = 12 := rfl
theorem mt_250 : mcc 250 = cX12_cover ∧ mnl 250 = 6 ∧ mrt 250 = (some .int) ∧ mci 250 = 12 := ⟨rfl, rfl, rfl, rfl⟩
theorem mcc_250 : mcc 250 = cX12_cover := rfl
theorem mci_250 : mci 250 = 12 := rfl
theorem mt_251 : mcc 251 = cX12_strengthOf ∧ mnl 251 = 5 ∧ mrt 251 = (some .int) ∧ mci 251 = 12 := ⟨rfl, rfl, rfl, rfl⟩
theorem mcc_251 : mcc 251 = cX12_strengthOf := rfl
theorem mci_251 : mci 251 = 12 := rfl
theorem mt_252 : mcc 252 = cX12_strength ∧ mnl 252 = 2 ∧ mrt 252 = (some .int) ∧ mci 252 = 12 := ⟨rfl, rfl, rfl, rfl⟩
theorem mcc_252 : mcc 252 = cX12_strength := rfl
theorem mci_252 : mci 252 = 12 := rfl
theorem mt_253 : mcc 253 = cX12_marksOf ∧ mnl 253 = 4 ∧ mrt 253 = (some .int) ∧ mci 253 = 12 := ⟨rfl, rfl, rfl, rfl⟩
theorem mcc_253 : mcc 253 = cX12_marksOf := rfl
theorem mci_253 : mci 253 = 12 := rfl
theorem mt_254 : mcc 254 = cX12_drawBack ∧ mnl 254 = 9 ∧ mrt 254 = (some .int) ∧ mci 254 = 12 := ⟨rfl, rfl, rfl, rfl⟩
theorem mcc_254 : mcc 254 = cX12_drawBack := rfl
theorem mci_254 : mci 254 = 12 := rfl
theorem mt_255 : mcc 255 = cX12_protest ∧ mnl 255 = 4 ∧ mrt 255 = (some .int) ∧ mci 255 = 12 := ⟨rfl, rfl, rfl, rfl⟩
theorem mcc_255 : mcc 255 = cX12_protest := rfl
theorem mci_255 : mci 255 = 12 := rfl
theorem mt_256 : mcc 256 = cX12_answer ∧ mnl 256 = 3 ∧ mrt 256 = (some .int) ∧ mci 256 = 12 := ⟨rfl, rfl, rfl, rfl⟩
theorem mcc_256 : mcc 256 = cX12_answer := rfl
theorem mci_256 : mci 256 = 12 := rfl
theorem mt_257 : mcc 257 = cX12_late ∧ mnl 257 = 4 ∧ mrt 257 = (some .int) ∧ mci 257 = 12 := ⟨rfl, rfl, rfl, rfl⟩
theorem mcc_257 : mcc 257 = cX12_late := rfl
theorem mci_257 : mci 257 = 12 := rfl
theorem mt_258 : mcc 258 = cX12_blame ∧ mnl 258 = 3 ∧ mrt 258 = (some .int) ∧ mci 258 = 12 := ⟨rfl, rfl, rfl, rfl⟩
theorem mcc_258 : mcc 258 = cX12_blame := rfl
theorem mci_258 : mci 258 = 12 := rfl
theorem mt_259 : mcc 259 = cX12_listed ∧ mnl 259 = 5 ∧ mrt 259 = (some .int) ∧ mci 259 = 12 := ⟨rfl, rfl, rfl, rfl⟩
theorem mcc_259 : mcc 259 = cX12_listed := rfl
theorem mci_259 : mci 259 = 12 := rfl
theorem mt_260 : mcc 260 = cX12_alone ∧ mnl 260 = 2 ∧ mrt 260 = (some .long) ∧ mci 260 = 12 := ⟨rfl, rfl, rfl, rfl⟩
theorem mcc_260 : mcc 260 = cX12_alone := rfl
theorem mci_260 : mci 260 = 12 := rfl
theorem mt_261 : mcc 261 = cX12_count ∧ mnl 261 = 2 ∧ mrt 261 = (some .int) ∧ mci 261 = 12 := ⟨rfl, rfl, rfl, rfl⟩
theorem mcc_261 : mcc 261 = cX12_count := rfl
theorem mci_261 : mci 261 = 12 := rfl
theorem mt_262 : mcc 262 = cX12_isSheet ∧ mnl 262 = 2 ∧ mrt 262 = (some .boolean) ∧ mci 262 = 12 := ⟨rfl, rfl, rfl, rfl⟩
theorem mcc_262 : mcc 262 = cX12_isSheet := rfl
theorem mci_262 : mci 262 = 12 := rfl
theorem mt_263 : mcc 263 = cX12_sheet ∧ mnl 263 = 5 ∧ mrt 263 = (some .int) ∧ mci 263 = 12 := ⟨rfl, rfl, rfl, rfl⟩
theorem mcc_263 : mcc 263 = cX12_sheet := rfl
theorem mci_263 : mci 263 = 12 := rfl
theorem mt_264 : mcc 264 = cX12_cell ∧ mnl 264 = 4 ∧ mrt 264 = (some .int) ∧ mci 264 = 12 := ⟨rfl, rfl, rfl, rfl⟩
theorem mcc_264 : mcc 264 = cX12_cell := rfl
theorem mci_264 : mci 264 = 12 := rfl
theorem mt_265 : mcc 265 = cX12_copy ∧ mnl 265 = 7 ∧ mrt 265 = (some .int) ∧ mci 265 = 12 := ⟨rfl, rfl, rfl, rfl⟩
theorem mcc_265 : mcc 265 = cX12_copy := rfl
theorem mci_265 : mci 265 = 12 := rfl
theorem mt_266 : mcc 266 = cX12_heights ∧ mnl 266 = 8 ∧ mrt 266 = (some .int) ∧ mci 266 = 12 := ⟨rfl, rfl, rfl, rfl⟩
theorem mcc_266 : mcc 266 = cX12_heights := rfl
theorem mci_266 : mci 266 = 12 := rfl
theorem mt_267 : mcc 267 = cX12_taken ∧ mnl 267 = 3 ∧ mrt 267 = (some .int) ∧ mci 267 = 12 := ⟨rfl, rfl, rfl, rfl⟩
theorem mcc_267 : mcc 267 = cX12_taken := rfl
theorem mci_267 : mci 267 = 12 := rfl
theorem mt_268 : mcc 268 = cJ6_bitCount_0f7a4 ∧ mnl 268 = 1 ∧ mrt 268 = (some .int) ∧ mci 268 = 14 := ⟨rfl, rfl, rfl, rfl⟩
theorem mcc_268 : mcc 268 = cJ6_bitCount_0f7a4 := rfl
theorem mci_268 : mci 268 = 14 := rfl
theorem mt_269 : mcc 269 = cJ13_bitCount_95d88 ∧ mnl 269 = 2 ∧ mrt 269 = (some .int) ∧ mci 269 = 15 := ⟨rfl, rfl, rfl, rfl⟩
theorem mcc_269 : mcc 269 = cJ13_bitCount_95d88 := rfl
theorem mci_269 : mci 269 = 15 := rfl
theorem mt_270 : mcc 270 = cJ9_abs_0f7a4 ∧ mnl 270 = 1 ∧ mrt 270 = (some .int) ∧ mci 270 = 16 := ⟨rfl, rfl, rfl, rfl⟩
theorem mcc_270 : mcc 270 = cJ9_abs_0f7a4 := rfl
theorem mci_270 : mci 270 = 16 := rfl
theorem mt_271 : mcc 271 = cJ9_max_7cf53 ∧ mnl 271 = 2 ∧ mrt 271 = (some .int) ∧ mci 271 = 16 := ⟨rfl, rfl, rfl, rfl⟩
theorem mcc_271 : mcc 271 = cJ9_max_7cf53 := rfl
theorem mci_271 : mci 271 = 16 := rfl
theorem mt_272 : mcc 272 = cJ9_min_7cf53 ∧ mnl 272 = 2 ∧ mrt 272 = (some .int) ∧ mci 272 = 16 := ⟨rfl, rfl, rfl, rfl⟩
theorem mcc_272 : mcc 272 = cJ9_min_7cf53 := rfl
theorem mci_272 : mci 272 = 16 := rfl
theorem mt_273 : mcc 273 = cJ0_length_8abf5 ∧ mnl 273 = 1 ∧ mrt 273 = (some .int) ∧ mci 273 = 18 := ⟨rfl, rfl, rfl, rfl⟩
theorem mcc_273 : mcc 273 = cJ0_length_8abf5 := rfl
theorem mci_273 : mci 273 = 18 := rfl
theorem mt_274 : mcc 274 = cJ0_charAt_5068e ∧ mnl 274 = 2 ∧ mrt 274 = (some .char) ∧ mci 274 = 18 := ⟨rfl, rfl, rfl, rfl⟩
theorem mcc_274 : mcc 274 = cJ0_charAt_5068e := rfl
theorem mci_274 : mci 274 = 18 := rfl
theorem mt_275 : mcc 275 = cJ0_coder_7d493 ∧ mnl 275 = 1 ∧ mrt 275 = (some .byte) ∧ mci 275 = 18 := ⟨rfl, rfl, rfl, rfl⟩
theorem mcc_275 : mcc 275 = cJ0_coder_7d493 := rfl
theorem mci_275 : mci 275 = 18 := rfl
theorem mt_276 : mcc 276 = cJ0_isLatin1_aae02 ∧ mnl 276 = 1 ∧ mrt 276 = (some .boolean) ∧ mci 276 = 18 := ⟨rfl, rfl, rfl, rfl⟩
theorem mcc_276 : mcc 276 = cJ0_isLatin1_aae02 := rfl
theorem mci_276 : mci 276 = 18 := rfl
theorem mt_277 : mcc 277 = cJ0_checkIndex_df160 ∧ mnl 277 = 2 ∧ mrt 277 = none ∧ mci 277 = 18 := ⟨rfl, rfl, rfl, rfl⟩
theorem mcc_277 : mcc 277 = cJ0_checkIndex_df160 := rfl
theorem mci_277 : mci 277 = 18 := rfl
theorem mt_278 : mcc 278 = cJ1_charAt_3b067 ∧ mnl 278 = 2 ∧ mrt 278 = (some .char) ∧ mci 278 = 19 := ⟨rfl, rfl, rfl, rfl⟩
theorem mcc_278 : mcc 278 = cJ1_charAt_3b067 := rfl
theorem mci_278 : mci 278 = 19 := rfl
theorem mt_279 : mcc 279 = cJ2_getChar_3b067 ∧ mnl 279 = 2 ∧ mrt 279 = (some .char) ∧ mci 279 = 20 := ⟨rfl, rfl, rfl, rfl⟩
theorem mcc_279 : mcc 279 = cJ2_getChar_3b067 := rfl
theorem mci_279 : mci 279 = 20 := rfl
theorem mt_280 : mcc 280 = cJ2_length_9d52b ∧ mnl 280 = 1 ∧ mrt 280 = (some .int) ∧ mci 280 = 20 := ⟨rfl, rfl, rfl, rfl⟩
theorem mcc_280 : mcc 280 = cJ2_length_9d52b := rfl
theorem mci_280 : mci 280 = 20 := rfl
theorem mt_281 : mcc 281 = cJ2_charAt_3b067 ∧ mnl 281 = 2 ∧ mrt 281 = (some .char) ∧ mci 281 = 20 := ⟨rfl, rfl, rfl, rfl⟩
theorem mcc_281 : mcc 281 = cJ2_charAt_3b067 := rfl
theorem mci_281 : mci 281 = 20 := rfl
theorem mt_282 : mcc 282 = cJ2_checkIndex_2214a ∧ mnl 282 = 2 ∧ mrt 282 = none ∧ mci 282 = 20 := ⟨rfl, rfl, rfl, rfl⟩
theorem mcc_282 : mcc 282 = cJ2_checkIndex_2214a := rfl
theorem mci_282 : mci 282 = 20 := rfl
theorem mt_283 : mcc 283 = cJ7_fill_53178 ∧ mnl 283 = 4 ∧ mrt 283 = none ∧ mci 283 = 17 := ⟨rfl, rfl, rfl, rfl⟩
theorem mcc_283 : mcc 283 = cJ7_fill_53178 := rfl
theorem mci_283 : mci 283 = 17 := rfl
theorem mt_284 : mcc 284 = cJ3_checkIndex_8e157 ∧ mnl 284 = 3 ∧ mrt 284 = (some .int) ∧ mci 284 = 21 := ⟨rfl, rfl, rfl, rfl⟩
theorem mcc_284 : mcc 284 = cJ3_checkIndex_8e157 := rfl
theorem mci_284 : mci 284 = 21 := rfl
theorem mt_285 : mcc 285 = cL_law ∧ mnl 285 = 4 ∧ mrt 285 = (some .boolean) ∧ mci 285 = 13 := ⟨rfl, rfl, rfl, rfl⟩
theorem mcc_285 : mcc 285 = cL_law := rfl
theorem mci_285 : mci 285 = 13 := rfl
/-! method references: class, place in its pool, method, arguments, 0 virtual 1 static 2 special; place of the link's word, 1: of a nest mate -/
def mrL_0 : List (Nat × Nat × Nat × Nat × Nat × Nat × Nat) := [(13, 9, 107, 0, 2, 107, 0), (11, 1, 999, 0, 2, 110, 0), (11, 9, 100, 0, 2, 115, 0), (10, 3, 999, 0, 2, 118, 0), (10, 22, 283, 2, 1, 119, 0), (11, 18, 26, 1, 2, 142, 0), (3, 3, 999, 0, 2, 145, 0), (3, 21, 20, 0, 2, 149, 1), (2, 3, 999, 0, 2, 152, 0), (11, 27, 93, 0, 2, 223, 0), (9, 3, 999, 0, 2, 226, 0), (9, 28, 58, 2, 2, 231, 0), (6, 3, 999, 0, 2, 234, 0), (9, 37, 273, 0, 0, 264, 0), (18, 335, 275, 0, 0, 268, 0), (9, 43, 272, 2, 1, 274, 0), (9, 53, 274, 1, 0, 277, 0), (18, 492, 276, 0, 0, 281, 0), (18, 495, 278, 2, 1, 285, 0), (19, 9, 277, 2, 1, 288, 0), (18, 1059, 284, 3, 1, 293, 0), (18, 498, 281, 2, 1, 296, 0), (20, 67, 282, 2, 1, 299, 0), (20, 48, 280, 1, 1, 302, 0), (20, 414, 277, 2, 1, 305, 0), (20, 71, 279, 2, 1, 306, 0), (9, 57, 96, 0, 0, 315, 0), (9, 69, 60, 3, 0, 319, 0), (6, 28, 272, 2, 1, 323, 0), (6, 38, 61, 0, 0, 324, 0), (6, 58, 62, 1, 0, 328, 0), (6, 65, 67, 1, 1, 332, 0), (6, 69, 68, 1, 1, 335, 0), (6, 62, 63, 2, 0, 338, 0), (6, 72, 64, 2, 0, 342, 0), (6, 76, 65, 3, 0, 347, 0), (6, 100, 273, 0, 0, 351, 0), (6, 106, 274, 1, 0, 352, 0), (6, 47, 69, 2, 0, 363, 0), (6, 51, 78, 1, 0, 367, 0), (6, 119, 77, 1, 0, 371, 0), (6, 122, 79, 0, 0, 375, 0), (6, 134, 80, 0, 0, 379, 0), (6, 113, 70, 1, 0, 383, 0), (6, 116, 71, 1, 0, 387, 0), (6, 128, 72, 1, 0, 391, 0), (6, 131, 73, 1, 0, 395, 0), (6, 137, 74, 1, 0, 399, 0), (6, 140, 75, 1, 0, 403, 0), (6, 143, 76, 1, 0, 407, 0), (6, 146, 66, 1, 0, 411, 0), (6, 125, 81, 1, 0, 415, 0), (6, 149, 59, 1, 1, 419, 0), (6, 24, 157, 3, 1, 422, 1), (11, 34, 12, 3, 2, 454, 0), (1, 3, 999, 0, 2, 457, 0), (11, 43, 0, 1, 2, 473, 0), (0, 3, 999, 0, 2, 476, 0), (11, 52, 88, 2, 2, 529, 0), (8, 3, 999, 0, 2, 532, 0)]
def mrL_1 : List (Nat × Nat × Nat × Nat × Nat × Nat × Nat) := [(11, 61, 45, 2, 2, 542, 0), (5, 3, 999, 0, 2, 545, 0), (11, 70, 36, 0, 2, 575, 1), (4, 3, 999, 0, 2, 578, 0), (11, 77, 82, 0, 2, 623, 1), (7, 1, 999, 0, 2, 626, 0), (13, 13, 108, 2, 0, 667, 0), (11, 82, 158, 1, 1, 671, 0), (11, 86, 157, 3, 1, 674, 0), (13, 18, 109, 2, 0, 675, 0), (13, 22, 110, 2, 0, 679, 0), (13, 26, 111, 2, 0, 683, 0), (11, 104, 101, 1, 0, 687, 0), (11, 108, 102, 1, 0, 691, 0), (11, 111, 103, 1, 0, 695, 0), (10, 28, 102, 1, 0, 699, 0), (11, 114, 167, 1, 1, 700, 0), (13, 30, 112, 4, 0, 703, 0), (11, 118, 163, 1, 1, 707, 0), (11, 121, 160, 1, 1, 710, 0), (11, 124, 27, 4, 0, 713, 0), (3, 26, 23, 4, 0, 717, 0), (2, 18, 163, 1, 1, 721, 1), (13, 35, 113, 2, 0, 724, 0), (11, 128, 28, 1, 0, 728, 0), (3, 30, 157, 3, 1, 732, 1), (11, 140, 21, 2, 1, 733, 0), (11, 144, 24, 1, 0, 738, 0), (13, 39, 114, 2, 0, 742, 0), (11, 147, 162, 1, 1, 746, 0), (13, 43, 115, 2, 0, 749, 0), (13, 47, 116, 2, 0, 753, 0), (11, 166, 159, 1, 1, 757, 0), (11, 169, 25, 1, 0, 760, 0), (13, 51, 117, 2, 0, 764, 0), (11, 172, 31, 2, 0, 768, 0), (3, 52, 25, 1, 0, 772, 0), (3, 59, 104, 3, 0, 773, 0), (10, 32, 169, 1, 1, 777, 1), (10, 36, 22, 3, 1, 780, 0), (10, 45, 271, 2, 1, 783, 0), (13, 55, 118, 2, 0, 786, 0), (11, 178, 33, 2, 0, 791, 0), (3, 71, 31, 2, 0, 795, 0), (3, 75, 106, 2, 0, 796, 0), (10, 54, 105, 3, 0, 800, 0), (10, 51, 270, 1, 1, 804, 0), (13, 60, 119, 2, 0, 807, 0), (11, 182, 34, 2, 0, 811, 0), (3, 79, 33, 2, 0, 815, 0), (13, 66, 120, 2, 0, 816, 0), (11, 185, 95, 2, 0, 820, 0), (13, 71, 121, 0, 0, 825, 0), (11, 189, 96, 0, 0, 829, 0), (13, 76, 122, 2, 0, 830, 0), (11, 193, 94, 1, 0, 834, 0), (9, 63, 157, 3, 1, 838, 1), (13, 80, 123, 4, 0, 839, 0), (11, 197, 13, 4, 0, 843, 0), (1, 35, 25, 1, 0, 847, 0)]
def mrL_2 : List (Nat × Nat × Nat × Nat × Nat × Nat × Nat) := [(1, 45, 17, 2, 0, 848, 0), (1, 49, 18, 2, 0, 852, 0), (1, 103, 102, 1, 0, 856, 0), (1, 99, 19, 2, 0, 857, 0), (1, 106, 161, 1, 1, 861, 1), (1, 109, 101, 1, 0, 864, 0), (1, 53, 103, 1, 0, 865, 0), (1, 59, 167, 1, 1, 866, 1), (1, 74, 97, 3, 0, 867, 0), (9, 73, 59, 1, 1, 871, 0), (9, 77, 98, 2, 1, 872, 0), (9, 84, 167, 1, 1, 875, 1), (9, 80, 99, 3, 1, 876, 0), (13, 85, 124, 2, 0, 879, 0), (11, 200, 14, 1, 0, 883, 0), (1, 85, 13, 4, 0, 887, 0), (11, 203, 15, 2, 0, 888, 0), (1, 88, 14, 1, 0, 892, 0), (1, 91, 34, 2, 0, 893, 0), (1, 95, 166, 2, 1, 894, 1), (13, 89, 125, 1, 0, 897, 0), (11, 206, 16, 1, 0, 901, 0), (13, 94, 126, 5, 0, 905, 0), (11, 209, 37, 5, 0, 909, 0), (13, 99, 127, 3, 0, 913, 0), (11, 213, 38, 3, 0, 917, 0), (13, 104, 128, 3, 0, 921, 0), (11, 217, 1, 3, 0, 925, 0), (13, 108, 129, 4, 0, 929, 0), (11, 220, 2, 4, 0, 933, 0), (13, 112, 130, 1, 0, 937, 0), (11, 227, 4, 1, 0, 941, 0), (0, 60, 166, 2, 1, 945, 1), (0, 64, 268, 1, 1, 946, 0), (13, 116, 131, 2, 0, 952, 0), (11, 233, 5, 2, 0, 956, 0), (0, 70, 11, 4, 0, 960, 0), (0, 112, 35, 4, 0, 966, 0), (3, 82, 168, 2, 1, 970, 1), (11, 378, 270, 1, 1, 973, 0), (11, 383, 271, 2, 1, 974, 0), (0, 115, 32, 3, 0, 975, 0), (3, 65, 105, 3, 0, 979, 0), (13, 120, 132, 0, 0, 980, 0), (11, 236, 6, 0, 0, 984, 0), (0, 74, 10, 2, 0, 988, 0), (0, 106, 5, 2, 0, 992, 0), (0, 77, 167, 1, 1, 993, 1), (13, 124, 133, 3, 0, 994, 0), (11, 239, 7, 4, 0, 998, 0), (0, 81, 271, 2, 1, 1002, 0), (13, 128, 134, 1, 0, 1003, 0), (11, 242, 8, 2, 0, 1007, 0), (0, 102, 7, 4, 0, 1011, 0), (13, 132, 135, 3, 0, 1012, 0), (11, 245, 165, 2, 1, 1016, 0), (11, 251, 3, 3, 0, 1019, 0), (13, 136, 136, 0, 0, 1023, 0), (11, 254, 9, 0, 0, 1027, 0), (13, 140, 137, 2, 0, 1031, 0)]
def mrL_3 : List (Nat × Nat × Nat × Nat × Nat × Nat × Nat) := [(13, 144, 138, 3, 0, 1035, 0), (11, 257, 29, 1, 0, 1039, 0), (3, 34, 28, 1, 0, 1043, 0), (3, 41, 161, 1, 1, 1044, 1), (11, 260, 30, 0, 0, 1045, 0), (3, 48, 167, 1, 1, 1049, 1), (11, 263, 89, 4, 0, 1050, 0), (8, 19, 91, 3, 0, 1054, 0), (8, 52, 161, 1, 1, 1058, 1), (8, 60, 166, 2, 1, 1059, 1), (8, 64, 92, 3, 0, 1060, 0), (8, 72, 25, 1, 0, 1064, 0), (8, 75, 35, 4, 0, 1065, 0), (8, 67, 13, 4, 0, 1066, 0), (13, 148, 139, 4, 0, 1067, 0), (11, 269, 268, 1, 1, 1071, 0), (11, 274, 90, 4, 0, 1072, 0), (8, 23, 30, 0, 0, 1076, 0), (8, 29, 268, 1, 1, 1077, 0), (8, 35, 89, 4, 0, 1078, 0), (13, 152, 140, 1, 0, 1079, 0), (11, 277, 46, 1, 0, 1083, 0), (13, 156, 141, 3, 0, 1087, 0), (11, 283, 47, 2, 0, 1091, 0), (5, 38, 49, 1, 0, 1095, 0), (5, 63, 104, 3, 0, 1099, 0), (5, 69, 106, 2, 0, 1100, 0), (5, 42, 268, 1, 1, 1101, 0), (5, 48, 48, 1, 0, 1102, 0), (5, 57, 166, 2, 1, 1106, 1), (5, 52, 269, 1, 1, 1107, 0), (11, 286, 48, 1, 0, 1113, 0), (11, 290, 269, 1, 1, 1114, 0), (13, 160, 142, 3, 0, 1115, 0), (11, 295, 51, 1, 0, 1119, 0), (5, 92, 165, 2, 1, 1123, 1), (5, 78, 53, 1, 0, 1124, 0), (5, 117, 21, 2, 1, 1128, 0), (5, 95, 161, 1, 1, 1129, 1), (11, 298, 52, 3, 0, 1130, 0), (5, 98, 54, 1, 0, 1134, 0), (5, 101, 55, 1, 0, 1138, 0), (5, 124, 50, 1, 0, 1142, 0), (5, 127, 56, 1, 0, 1146, 0), (5, 130, 270, 1, 1, 1150, 0), (5, 111, 57, 1, 0, 1151, 0), (5, 107, 157, 3, 1, 1155, 1), (13, 164, 143, 1, 0, 1156, 0), (11, 301, 50, 1, 0, 1160, 0), (13, 168, 144, 3, 0, 1161, 0), (11, 304, 161, 1, 1, 1165, 0), (11, 307, 39, 3, 0, 1166, 0), (13, 172, 145, 2, 0, 1170, 0), (11, 310, 40, 1, 0, 1174, 0), (4, 50, 157, 3, 1, 1178, 1), (11, 316, 41, 2, 0, 1179, 0), (13, 176, 146, 1, 0, 1183, 0), (11, 319, 42, 1, 0, 1187, 0), (13, 180, 147, 1, 0, 1191, 0), (11, 322, 43, 1, 0, 1195, 0)]
def mrL_4 : List (Nat × Nat × Nat × Nat × Nat × Nat × Nat) := [(13, 184, 148, 3, 0, 1199, 0), (11, 325, 44, 3, 0, 1203, 0), (4, 54, 167, 1, 1, 1207, 1), (13, 188, 149, 1, 0, 1209, 0), (13, 193, 150, 1, 0, 1214, 0), (13, 197, 151, 3, 0, 1218, 0), (11, 345, 164, 1, 1, 1222, 0), (11, 348, 86, 2, 0, 1225, 0), (7, 26, 283, 2, 1, 1229, 0), (13, 201, 152, 3, 0, 1230, 0), (11, 351, 83, 0, 0, 1234, 0), (11, 355, 84, 1, 0, 1238, 0), (7, 20, 157, 3, 1, 1242, 1), (11, 356, 87, 2, 0, 1243, 0), (13, 205, 153, 5, 0, 1247, 0), (11, 362, 85, 2, 0, 1251, 0), (11, 368, 998, 5, 1, 1255, 0), (13, 209, 154, 5, 0, 1258, 0), (11, 374, 156, 4, 0, 1262, 0), (13, 213, 155, 2, 0, 1266, 0), (13, 12, 171, 0, 2, 1272, 0), (12, 1, 999, 0, 2, 1275, 0), (12, 215, 200, 0, 0, 1276, 0), (13, 17, 174, 2, 0, 1482, 0), (12, 222, 172, 1, 0, 1486, 0), (12, 218, 170, 3, 0, 1490, 0), (13, 21, 175, 2, 0, 1494, 0), (13, 25, 176, 2, 0, 1498, 0), (13, 29, 179, 2, 0, 1502, 0), (12, 226, 177, 1, 0, 1506, 0), (12, 230, 178, 1, 0, 1510, 0), (13, 34, 184, 4, 0, 1514, 0), (13, 38, 186, 2, 0, 1518, 0), (12, 236, 183, 1, 0, 1522, 0), (12, 239, 185, 2, 0, 1526, 0), (13, 42, 187, 2, 0, 1530, 0), (13, 46, 189, 2, 0, 1534, 0), (12, 243, 188, 1, 0, 1538, 0), (13, 50, 191, 2, 0, 1542, 0), (12, 246, 173, 1, 0, 1546, 0), (12, 249, 190, 2, 0, 1550, 0), (13, 54, 193, 2, 0, 1554, 0), (12, 256, 192, 3, 0, 1558, 0), (12, 253, 182, 1, 0, 1562, 0), (13, 59, 197, 2, 0, 1566, 0), (12, 270, 196, 2, 0, 1570, 0), (12, 266, 195, 3, 0, 1574, 0), (12, 260, 181, 2, 0, 1578, 0), (12, 233, 180, 1, 0, 1582, 0), (12, 263, 194, 2, 0, 1586, 0), (13, 63, 199, 2, 0, 1591, 0), (12, 276, 198, 2, 0, 1595, 0), (13, 70, 201, 2, 0, 1599, 0), (13, 75, 217, 0, 0, 1603, 0), (12, 350, 216, 0, 0, 1607, 0), (12, 339, 206, 0, 0, 1611, 0), (12, 281, 202, 1, 0, 1615, 0), (12, 310, 205, 0, 0, 1619, 0), (12, 286, 204, 1, 0, 1624, 0), (12, 313, 203, 1, 0, 1639, 0)]
def mrL_5 : List (Nat × Nat × Nat × Nat × Nat × Nat × Nat) := [(12, 323, 207, 1, 0, 1643, 0), (12, 346, 215, 0, 0, 1647, 0), (12, 329, 213, 1, 0, 1651, 0), (12, 326, 208, 1, 0, 1655, 0), (12, 333, 212, 1, 0, 1659, 0), (12, 319, 209, 1, 0, 1663, 0), (12, 336, 211, 1, 0, 1667, 0), (12, 316, 210, 1, 0, 1671, 0), (12, 342, 214, 0, 0, 1675, 0), (13, 79, 218, 2, 0, 1679, 0), (13, 84, 222, 4, 0, 1683, 0), (12, 359, 221, 4, 0, 1687, 0), (12, 356, 220, 2, 0, 1691, 0), (12, 353, 219, 3, 0, 1695, 0), (13, 88, 223, 2, 0, 1699, 0), (13, 93, 224, 1, 0, 1703, 0), (13, 98, 225, 5, 0, 1707, 0), (13, 103, 226, 3, 0, 1711, 0), (13, 107, 228, 3, 0, 1715, 0), (13, 111, 231, 4, 0, 1719, 0), (13, 115, 232, 1, 0, 1723, 0), (13, 119, 234, 2, 0, 1727, 0), (12, 370, 227, 1, 0, 1731, 0), (12, 373, 233, 2, 0, 1735, 0), (12, 366, 230, 4, 0, 1739, 0), (12, 363, 229, 1, 0, 1743, 0), (13, 123, 235, 0, 0, 1747, 0), (13, 127, 237, 3, 0, 1751, 0), (12, 376, 235, 0, 0, 1755, 0), (12, 379, 236, 4, 0, 1756, 0), (13, 131, 238, 1, 0, 1760, 0), (13, 135, 239, 3, 0, 1764, 0), (13, 139, 240, 0, 0, 1768, 0), (13, 143, 241, 2, 0, 1772, 0), (13, 147, 244, 3, 0, 1776, 0), (12, 382, 243, 2, 0, 1780, 0), (12, 385, 242, 4, 0, 1784, 0), (13, 151, 246, 4, 0, 1788, 0), (12, 388, 245, 1, 0, 1792, 0), (13, 155, 247, 1, 0, 1796, 0), (13, 159, 250, 3, 0, 1800, 0), (12, 395, 249, 1, 0, 1804, 0), (12, 391, 248, 1, 0, 1808, 0), (13, 167, 252, 1, 0, 1812, 0), (12, 398, 251, 2, 0, 1816, 0), (13, 163, 254, 3, 0, 1820, 0), (12, 401, 253, 1, 0, 1824, 0), (13, 171, 255, 3, 0, 1828, 0), (13, 175, 256, 2, 0, 1832, 0), (13, 179, 257, 1, 0, 1836, 0), (13, 183, 258, 1, 0, 1840, 0), (13, 187, 259, 3, 0, 1844, 0), (13, 192, 260, 1, 0, 1849, 0), (13, 196, 261, 1, 0, 1853, 0), (13, 200, 263, 3, 0, 1857, 0), (12, 406, 262, 1, 0, 1861, 0), (13, 204, 264, 3, 0, 1865, 0), (13, 208, 265, 5, 0, 1869, 0), (13, 212, 266, 5, 0, 1873, 0), (12, 409, 174, 2, 0, 1877, 0)]
def mrL_6 : List (Nat × Nat × Nat × Nat × Nat × Nat × Nat) := [(13, 216, 267, 2, 0, 1878, 0)]
def mrL : List (Nat × Nat × Nat × Nat × Nat × Nat × Nat) := mrL_0 ++ (mrL_1 ++ (mrL_2 ++ (mrL_3 ++ (mrL_4 ++ (mrL_5 ++ (mrL_6))))))
def mr (ci ix : Nat) : Option (Nat × Nat × Nat) := (mrL.find? (fun q => q.1 == ci && q.2.1 == ix)).map (fun q => (q.2.2.1, q.2.2.2.1, q.2.2.2.2.1))
theorem mr_13_9 : mr 13 9 = some (107, 0, 2) := by decide +kernel
theorem mr_11_1 : mr 11 1 = some (999, 0, 2) := by decide +kernel
theorem mr_11_9 : mr 11 9 = some (100, 0, 2) := by decide +kernel
theorem mr_10_3 : mr 10 3 = some (999, 0, 2) := by decide +kernel
theorem mr_10_22 : mr 10 22 = some (283, 2, 1) := by decide +kernel
theorem mr_11_18 : mr 11 18 = some (26, 1, 2) := by decide +kernel
theorem mr_3_3 : mr 3 3 = some (999, 0, 2) := by decide +kernel
theorem mr_3_21 : mr 3 21 = some (20, 0, 2) := by decide +kernel
theorem mr_2_3 : mr 2 3 = some (999, 0, 2) := by decide +kernel
theorem mr_11_27 : mr 11 27 = some (93, 0, 2) := by decide +kernel
theorem mr_9_3 : mr 9 3 = some (999, 0, 2) := by decide +kernel
theorem mr_9_28 : mr 9 28 = some (58, 2, 2) := by decide +kernel
theorem mr_6_3 : mr 6 3 = some (999, 0, 2) := by decide +kernel
theorem mr_9_37 : mr 9 37 = some (273, 0, 0) := by decide +kernel
theorem mr_18_335 : mr 18 335 = some (275, 0, 0) := by decide +kernel
theorem mr_9_43 : mr 9 43 = some (272, 2, 1) := by decide +kernel
theorem mr_9_53 : mr 9 53 = some (274, 1, 0) := by decide +kernel
theorem mr_18_492 : mr 18 492 = some (276, 0, 0) := by decide +kernel
theorem mr_18_495 : mr 18 495 = some (278, 2, 1) := by decide +kernel
theorem mr_19_9 : mr 19 9 = some (277, 2, 1) := by decide +kernel
theorem mr_18_1059 : mr 18 1059 = some (284, 3, 1) := by decide +kernel
theorem mr_18_498 : mr 18 498 = some (281, 2, 1) := by decide +kernel
theorem mr_20_67 : mr 20 67 = some (282, 2, 1) := by decide +kernel
theorem mr_20_48 : mr 20 48 = some (280, 1, 1) := by decide +kernel
theorem mr_20_414 : mr 20 414 = some (277, 2, 1) := by decide +kernel
theorem mr_20_71 : mr 20 71 = some (279, 2, 1) := by decide +kernel
theorem mr_9_57 : mr 9 57 = some (96, 0, 0) := by decide +kernel
theorem mr_9_69 : mr 9 69 = some (60, 3, 0) := by decide +kernel
theorem mr_6_28 : mr 6 28 = some (272, 2, 1) := by decide +kernel
theorem mr_6_38 : mr 6 38 = some (61, 0, 0) := by decide +kernel
theorem mr_6_58 : mr 6 58 = some (62, 1, 0) := by decide +kernel
theorem mr_6_65 : mr 6 65 = some (67, 1, 1) := by decide +kernel
theorem mr_6_69 : mr 6 69 = some (68, 1, 1) := by decide +kernel
theorem mr_6_62 : mr 6 62 = some (63, 2, 0) := by decide +kernel
theorem mr_6_72 : mr 6 72 = some (64, 2, 0) := by decide +kernel
theorem mr_6_76 : mr 6 76 = some (65, 3, 0) := by decide +kernel
theorem mr_6_100 : mr 6 100 = some (273, 0, 0) := by decide +kernel
theorem mr_6_106 : mr 6 106 = some (274, 1, 0) := by decide +kernel
theorem mr_6_47 : mr 6 47 = some (69, 2, 0) := by decide +kernel
theorem mr_6_51 : mr 6 51 = some (78, 1, 0) := by decide +kernel
theorem mr_6_119 : mr 6 119 = some (77, 1, 0) := by decide +kernel
theorem mr_6_122 : mr 6 122 = some (79, 0, 0) := by decide +kernel
theorem mr_6_134 : mr 6 134 = some (80, 0, 0) := by decide +kernel
theorem mr_6_113 : mr 6 113 = some (70, 1, 0) := by decide +kernel
theorem mr_6_116 : mr 6 116 = some (71, 1, 0) := by decide +kernel
theorem mr_6_128 : mr 6 128 = some (72, 1, 0) := by decide +kernel
theorem mr_6_131 : mr 6 131 = some (73, 1, 0) := by decide +kernel
theorem mr_6_137 : mr 6 137 = some (74, 1, 0) := by decide +kernel
theorem mr_6_140 : mr 6 140 = some (75, 1, 0) := by decide +kernel
theorem mr_6_143 : mr 6 143 = some (76, 1, 0) := by decide +kernel
theorem mr_6_146 : mr 6 146 = some (66, 1, 0) := by decide +kernel
theorem mr_6_125 : mr 6 125 = some (81, 1, 0) := by decide +kernel
theorem mr_6_149 : mr 6 149 = some (59, 1, 1) := by decide +kernel
theorem mr_6_24 : mr 6 24 = some (157, 3, 1) := by decide +kernel
theorem mr_11_34 : mr 11 34 = some (12, 3, 2) := by decide +kernel
theorem mr_1_3 : mr 1 3 = some (999, 0, 2) := by decide +kernel
theorem mr_11_43 : mr 11 43 = some (0, 1, 2) := by decide +kernel
theorem mr_0_3 : mr 0 3 = some (999, 0, 2) := by decide +kernel
theorem mr_11_52 : mr 11 52 = some (88, 2, 2) := by decide +kernel
theorem mr_8_3 : mr 8 3 = some (999, 0, 2) := by decide +kernel
theorem mr_11_61 : mr 11 61 = some (45, 2, 2) := by decide +kernel
theorem mr_5_3 : mr 5 3 = some (999, 0, 2) := by decide +kernel
theorem mr_11_70 : mr 11 70 = some (36, 0, 2) := by decide +kernel
theorem mr_4_3 : mr 4 3 = some (999, 0, 2) := by decide +kernel
theorem mr_11_77 : mr 11 77 = some (82, 0, 2) := by decide +kernel
theorem mr_7_1 : mr 7 1 = some (999, 0, 2) := by decide +kernel
theorem mr_13_13 : mr 13 13 = some (108, 2, 0) := by decide +kernel
theorem mr_11_82 : mr 11 82 = some (158, 1, 1) := by decide +kernel
theorem mr_11_86 : mr 11 86 = some (157, 3, 1) := by decide +kernel
theorem mr_13_18 : mr 13 18 = some (109, 2, 0) := by decide +kernel
theorem mr_13_22 : mr 13 22 = some (110, 2, 0) := by decide +kernel
theorem mr_13_26 : mr 13 26 = some (111, 2, 0) := by decide +kernel
theorem mr_11_104 : mr 11 104 = some (101, 1, 0) := by decide +kernel
theorem mr_11_108 : mr 11 108 = some (102, 1, 0) := by decide +kernel
theorem mr_11_111 : mr 11 111 = some (103, 1, 0) := by decide +kernel
theorem mr_10_28 : mr 10 28 = some (102, 1, 0) := by decide +kernel
theorem mr_11_114 : mr 11 114 = some (167, 1, 1) := by decide +kernel
theorem mr_13_30 : mr 13 30 = some (112, 4, 0) := by decide +kernel
theorem mr_11_118 : mr 11 118 = some (163, 1, 1) := by decide +kernel
theorem mr_11_121 : mr 11 121 = some (160, 1, 1) := by decide +kernel
theorem mr_11_124 : mr 11 124 = some (27, 4, 0) := by decide +kernel
theorem mr_3_26 : mr 3 26 = some (23, 4, 0) := by decide +kernel
theorem mr_2_18 : mr 2 18 = some (163, 1, 1) := by decide +kernel
theorem mr_13_35 : mr 13 35 = some (113, 2, 0) := by decide +kernel
theorem mr_11_128 : mr 11 128 = some (28, 1, 0) := by decide +kernel
theorem mr_3_30 : mr 3 30 = some (157, 3, 1) := by decide +kernel
theorem mr_11_140 : mr 11 140 = some (21, 2, 1) := by decide +kernel
theorem mr_11_144 : mr 11 144 = some (24, 1, 0) := by decide +kernel
theorem mr_13_39 : mr 13 39 = some (114, 2, 0) := by decide +kernel
theorem mr_11_147 : mr 11 147 = some (162, 1, 1) := by decide +kernel
theorem mr_13_43 : mr 13 43 = some (115, 2, 0) := by decide +kernel
theorem mr_13_47 : mr 13 47 = some (116, 2, 0) := by decide +kernel
theorem mr_11_166 : mr 11 166 = some (159, 1, 1) := by decide +kernel
theorem mr_11_169 : mr 11 169 = some (25, 1, 0) := by decide +kernel
theorem mr_13_51 : mr 13 51 = some (117, 2, 0) := by decide +kernel
theorem mr_11_172 : mr 11 172 = some (31, 2, 0) := by decide +kernel
theorem mr_3_52 : mr 3 52 = some (25, 1, 0) := by decide +kernel
theorem mr_3_59 : mr 3 59 = some (104, 3, 0) := by decide +kernel
theorem mr_10_32 : mr 10 32 = some (169, 1, 1) := by decide +kernel
theorem mr_10_36 : mr 10 36 = some (22, 3, 1) := by decide +kernel
theorem mr_10_45 : mr 10 45 = some (271, 2, 1) := by decide +kernel
theorem mr_13_55 : mr 13 55 = some (118, 2, 0) := by decide +kernel
theorem mr_11_178 : mr 11 178 = some (33, 2, 0) := by decide +kernel
theorem mr_3_71 : mr 3 71 = some (31, 2, 0) := by decide +kernel
theorem mr_3_75 : mr 3 75 = some (106, 2, 0) := by decide +kernel
theorem mr_10_54 : mr 10 54 = some (105, 3, 0) := by decide +kernel
theorem mr_10_51 : mr 10 51 = some (270, 1, 1) := by decide +kernel
theorem mr_13_60 : mr 13 60 = some (119, 2, 0) := by decide +kernel
theorem mr_11_182 : mr 11 182 = some (34, 2, 0) := by decide +kernel
theorem mr_3_79 : mr 3 79 = some (33, 2, 0) := by decide +kernel
theorem mr_13_66 : mr 13 66 = some (120, 2, 0) := by decide +kernel
theorem mr_11_185 : mr 11 185 = some (95, 2, 0) := by decide +kernel
theorem mr_13_71 : mr 13 71 = some (121, 0, 0) := by decide +kernel
theorem mr_11_189 : mr 11 189 = some (96, 0, 0) := by decide +kernel
theorem mr_13_76 : mr 13 76 = some (122, 2, 0) := by decide +kernel
theorem mr_11_193 : mr 11 193 = some (94, 1, 0) := by decide +kernel
theorem mr_9_63 : mr 9 63 = some (157, 3, 1) := by decide +kernel
theorem mr_13_80 : mr 13 80 = some (123, 4, 0) := by decide +kernel
theorem mr_11_197 : mr 11 197 = some (13, 4, 0) := by decide +kernel
theorem mr_1_35 : mr 1 35 = some (25, 1, 0) := by decide +kernel
theorem mr_1_45 : mr 1 45 = some (17, 2, 0) := by decide +kernel
theorem mr_1_49 : mr 1 49 = some (18, 2, 0) := by decide +kernel
theorem mr_1_103 : mr 1 103 = some (102, 1, 0) := by decide +kernel
theorem mr_1_99 : mr 1 99 = some (19, 2, 0) := by decide +kernel
theorem mr_1_106 : mr 1 106 = some (161, 1, 1) := by decide +kernel
theorem mr_1_109 : mr 1 109 = some (101, 1, 0) := by decide +kernel
theorem mr_1_53 : mr 1 53 = some (103, 1, 0) := by decide +kernel
theorem mr_1_59 : mr 1 59 = some (167, 1, 1) := by decide +kernel
theorem mr_1_74 : mr 1 74 = some (97, 3, 0) := by decide +kernel
theorem mr_9_73 : mr 9 73 = some (59, 1, 1) := by decide +kernel
theorem mr_9_77 : mr 9 77 = some (98, 2, 1) := by decide +kernel
theorem mr_9_84 : mr 9 84 = some (167, 1, 1) := by decide +kernel
theorem mr_9_80 : mr 9 80 = some (99, 3, 1) := by decide +kernel
theorem mr_13_85 : mr 13 85 = some (124, 2, 0) := by decide +kernel
theorem mr_11_200 : mr 11 200 = some (14, 1, 0) := by decide +kernel
theorem mr_1_85 : mr 1 85 = some (13, 4, 0) := by decide +kernel
theorem mr_11_203 : mr 11 203 = some (15, 2, 0) := by decide +kernel
theorem mr_1_88 : mr 1 88 = some (14, 1, 0) := by decide +kernel
theorem mr_1_91 : mr 1 91 = some (34, 2, 0) := by decide +kernel
theorem mr_1_95 : mr 1 95 = some (166, 2, 1) := by decide +kernel
theorem mr_13_89 : mr 13 89 = some (125, 1, 0) := by decide +kernel
theorem mr_11_206 : mr 11 206 = some (16, 1, 0) := by decide +kernel
theorem mr_13_94 : mr 13 94 = some (126, 5, 0) := by decide +kernel
theorem mr_11_209 : mr 11 209 = some (37, 5, 0) := by decide +kernel
theorem mr_13_99 : mr 13 99 = some (127, 3, 0) := by decide +kernel
theorem mr_11_213 : mr 11 213 = some (38, 3, 0) := by decide +kernel
theorem mr_13_104 : mr 13 104 = some (128, 3, 0) := by decide +kernel
theorem mr_11_217 : mr 11 217 = some (1, 3, 0) := by decide +kernel
theorem mr_13_108 : mr 13 108 = some (129, 4, 0) := by decide +kernel
theorem mr_11_220 : mr 11 220 = some (2, 4, 0) := by decide +kernel
theorem mr_13_112 : mr 13 112 = some (130, 1, 0) := by decide +kernel
theorem mr_11_227 : mr 11 227 = some (4, 1, 0) := by decide +kernel
theorem mr_0_60 : mr 0 60 = some (166, 2, 1) := by decide +kernel
theorem mr_0_64 : mr 0 64 = some (268, 1, 1) := by decide +kernel
theorem mr_13_116 : mr 13 116 = some (131, 2, 0) := by decide +kernel
theorem mr_11_233 : mr 11 233 = some (5, 2, 0) := by decide +kernel
theorem mr_0_70 : mr 0 70 = some (11, 4, 0) := by decide +kernel
theorem mr_0_112 : mr 0 112 = some (35, 4, 0) := by decide +kernel
theorem mr_3_82 : mr 3 82 = some (168, 2, 1) := by decide +kernel
theorem mr_11_378 : mr 11 378 = some (270, 1, 1) := by decide +kernel
theorem mr_11_383 : mr 11 383 = some (271, 2, 1) := by decide +kernel
theorem mr_0_115 : mr 0 115 = some (32, 3, 0) := by decide +kernel
theorem mr_3_65 : mr 3 65 = some (105, 3, 0) := by decide +kernel
theorem mr_13_120 : mr 13 120 = some (132, 0, 0) := by decide +kernel
theorem mr_11_236 : mr 11 236 = some (6, 0, 0) := by decide +kernel
theorem mr_0_74 : mr 0 74 = some (10, 2, 0) := by decide +kernel
theorem mr_0_106 : mr 0 106 = some (5, 2, 0) := by decide +kernel
theorem mr_0_77 : mr 0 77 = some (167, 1, 1) := by decide +kernel
theorem mr_13_124 : mr 13 124 = some (133, 3, 0) := by decide +kernel
theorem mr_11_239 : mr 11 239 = some (7, 4, 0) := by decide +kernel
theorem mr_0_81 : mr 0 81 = some (271, 2, 1) := by decide +kernel
theorem mr_13_128 : mr 13 128 = some (134, 1, 0) := by decide +kernel
theorem mr_11_242 : mr 11 242 = some (8, 2, 0) := by decide +kernel
theorem mr_0_102 : mr 0 102 = some (7, 4, 0) := by decide +kernel
theorem mr_13_132 : mr 13 132 = some (135, 3, 0) := by decide +kernel
theorem mr_11_245 : mr 11 245 = some (165, 2, 1) := by decide +kernel
theorem mr_11_251 : mr 11 251 = some (3, 3, 0) := by decide +kernel
theorem mr_13_136 : mr 13 136 = some (136, 0, 0) := by decide +kernel
theorem mr_11_254 : mr 11 254 = some (9, 0, 0) := by decide +kernel
theorem mr_13_140 : mr 13 140 = some (137, 2, 0) := by decide +kernel
theorem mr_13_144 : mr 13 144 = some (138, 3, 0) := by decide +kernel
theorem mr_11_257 : mr 11 257 = some (29, 1, 0) := by decide +kernel
theorem mr_3_34 : mr 3 34 = some (28, 1, 0) := by decide +kernel
theorem mr_3_41 : mr 3 41 = some (161, 1, 1) := by decide +kernel
theorem mr_11_260 : mr 11 260 = some (30, 0, 0) := by decide +kernel
theorem mr_3_48 : mr 3 48 = some (167, 1, 1) := by decide +kernel
theorem mr_11_263 : mr 11 263 = some (89, 4, 0) := by decide +kernel
theorem mr_8_19 : mr 8 19 = some (91, 3, 0) := by decide +kernel
theorem mr_8_52 : mr 8 52 = some (161, 1, 1) := by decide +kernel
theorem mr_8_60 : mr 8 60 = some (166, 2, 1) := by decide +kernel
theorem mr_8_64 : mr 8 64 = some (92, 3, 0) := by decide +kernel
theorem mr_8_72 : mr 8 72 = some (25, 1, 0) := by decide +kernel
theorem mr_8_75 : mr 8 75 = some (35, 4, 0) := by decide +kernel
theorem mr_8_67 : mr 8 67 = some (13, 4, 0) := by decide +kernel
theorem mr_13_148 : mr 13 148 = some (139, 4, 0) := by decide +kernel
theorem mr_11_269 : mr 11 269 = some (268, 1, 1) := by decide +kernel
theorem mr_11_274 : mr 11 274 = some (90, 4, 0) := by decide +kernel
theorem mr_8_23 : mr 8 23 = some (30, 0, 0) := by decide +kernel
theorem mr_8_29 : mr 8 29 = some (268, 1, 1) := by decide +kernel
theorem mr_8_35 : mr 8 35 = some (89, 4, 0) := by decide +kernel
theorem mr_13_152 : mr 13 152 = some (140, 1, 0) := by decide +kernel
theorem mr_11_277 : mr 11 277 = some (46, 1, 0) := by decide +kernel
theorem mr_13_156 : mr 13 156 = some (141, 3, 0) := by decide +kernel
theorem mr_11_283 : mr 11 283 = some (47, 2, 0) := by decide +kernel
theorem mr_5_38 : mr 5 38 = some (49, 1, 0) := by decide +kernel
theorem mr_5_63 : mr 5 63 = some (104, 3, 0) := by decide +kernel
theorem mr_5_69 : mr 5 69 = some (106, 2, 0) := by decide +kernel
theorem mr_5_42 : mr 5 42 = some (268, 1, 1) := by decide +kernel
theorem mr_5_48 : mr 5 48 = some (48, 1, 0) := by decide +kernel
theorem mr_5_57 : mr 5 57 = some (166, 2, 1) := by decide +kernel
theorem mr_5_52 : mr 5 52 = some (269, 1, 1) := by decide +kernel
theorem mr_11_286 : mr 11 286 = some (48, 1, 0) := by decide +kernel
theorem mr_11_290 : mr 11 290 = some (269, 1, 1) := by decide +kernel
theorem mr_13_160 : mr 13 160 = some (142, 3, 0) := by decide +kernel
theorem mr_11_295 : mr 11 295 = some (51, 1, 0) := by decide +kernel
theorem mr_5_92 : mr 5 92 = some (165, 2, 1) := by decide +kernel
theorem mr_5_78 : mr 5 78 = some (53, 1, 0) := by decide +kernel
theorem mr_5_117 : mr 5 117 = some (21, 2, 1) := by decide +kernel
theorem mr_5_95 : mr 5 95 = some (161, 1, 1) := by decide +kernel
theorem mr_11_298 : mr 11 298 = some (52, 3, 0) := by decide +kernel
theorem mr_5_98 : mr 5 98 = some (54, 1, 0) := by decide +kernel
theorem mr_5_101 : mr 5 101 = some (55, 1, 0) := by decide +kernel
theorem mr_5_124 : mr 5 124 = some (50, 1, 0) := by decide +kernel
theorem mr_5_127 : mr 5 127 = some (56, 1, 0) := by decide +kernel
theorem mr_5_130 : mr 5 130 = some (270, 1, 1) := by decide +kernel
theorem mr_5_111 : mr 5 111 = some (57, 1, 0) := by decide +kernel
theorem mr_5_107 : mr 5 107 = some (157, 3, 1) := by decide +kernel
theorem mr_13_164 : mr 13 164 = some (143, 1, 0) := by decide +kernel
theorem mr_11_301 : mr 11 301 = some (50, 1, 0) := by decide +kernel
theorem mr_13_168 : mr 13 168 = some (144, 3, 0) := by decide +kernel
theorem mr_11_304 : mr 11 304 = some (161, 1, 1) := by decide +kernel
theorem mr_11_307 : mr 11 307 = some (39, 3, 0) := by decide +kernel
theorem mr_13_172 : mr 13 172 = some (145, 2, 0) := by decide +kernel
theorem mr_11_310 : mr 11 310 = some (40, 1, 0) := by decide +kernel
theorem mr_4_50 : mr 4 50 = some (157, 3, 1) := by decide +kernel
theorem mr_11_316 : mr 11 316 = some (41, 2, 0) := by decide +kernel
theorem mr_13_176 : mr 13 176 = some (146, 1, 0) := by decide +kernel
theorem mr_11_319 : mr 11 319 = some (42, 1, 0) := by decide +kernel
theorem mr_13_180 : mr 13 180 = some (147, 1, 0) := by decide +kernel
theorem mr_11_322 : mr 11 322 = some (43, 1, 0) := by decide +kernel
theorem mr_13_184 : mr 13 184 = some (148, 3, 0) := by decide +kernel
theorem mr_11_325 : mr 11 325 = some (44, 3, 0) := by decide +kernel
theorem mr_4_54 : mr 4 54 = some (167, 1, 1) := by decide +kernel
theorem mr_13_188 : mr 13 188 = some (149, 1, 0) := by decide +kernel
theorem mr_13_193 : mr 13 193 = some (150, 1, 0) := by decide +kernel
theorem mr_13_197 : mr 13 197 = some (151, 3, 0) := by decide +kernel
theorem mr_11_345 : mr 11 345 = some (164, 1, 1) := by decide +kernel
theorem mr_11_348 : mr 11 348 = some (86, 2, 0) := by decide +kernel
theorem mr_7_26 : mr 7 26 = some (283, 2, 1) := by decide +kernel
theorem mr_13_201 : mr 13 201 = some (152, 3, 0) := by decide +kernel
theorem mr_11_351 : mr 11 351 = some (83, 0, 0) := by decide +kernel
theorem mr_11_355 : mr 11 355 = some (84, 1, 0) := by decide +kernel
theorem mr_7_20 : mr 7 20 = some (157, 3, 1) := by decide +kernel
theorem mr_11_356 : mr 11 356 = some (87, 2, 0) := by decide +kernel
theorem mr_13_205 : mr 13 205 = some (153, 5, 0) := by decide +kernel
theorem mr_11_362 : mr 11 362 = some (85, 2, 0) := by decide +kernel
theorem mr_11_368 : mr 11 368 = some (998, 5, 1) := by decide +kernel
theorem mr_13_209 : mr 13 209 = some (154, 5, 0) := by decide +kernel
theorem mr_11_374 : mr 11 374 = some (156, 4, 0) := by decide +kernel
theorem mr_13_213 : mr 13 213 = some (155, 2, 0) := by decide +kernel
theorem mr_13_12 : mr 13 12 = some (171, 0, 2) := by decide +kernel
theorem mr_12_1 : mr 12 1 = some (999, 0, 2) := by decide +kernel
theorem mr_12_215 : mr 12 215 = some (200, 0, 0) := by decide +kernel
theorem mr_13_17 : mr 13 17 = some (174, 2, 0) := by decide +kernel
theorem mr_12_222 : mr 12 222 = some (172, 1, 0) := by decide +kernel
theorem mr_12_218 : mr 12 218 = some (170, 3, 0) := by decide +kernel
theorem mr_13_21 : mr 13 21 = some (175, 2, 0) := by decide +kernel
theorem mr_13_25 : mr 13 25 = some (176, 2, 0) := by decide +kernel
theorem mr_13_29 : mr 13 29 = some (179, 2, 0) := by decide +kernel
theorem mr_12_226 : mr 12 226 = some (177, 1, 0) := by decide +kernel
theorem mr_12_230 : mr 12 230 = some (178, 1, 0) := by decide +kernel
theorem mr_13_34 : mr 13 34 = some (184, 4, 0) := by decide +kernel
theorem mr_13_38 : mr 13 38 = some (186, 2, 0) := by decide +kernel
theorem mr_12_236 : mr 12 236 = some (183, 1, 0) := by decide +kernel
theorem mr_12_239 : mr 12 239 = some (185, 2, 0) := by decide +kernel
theorem mr_13_42 : mr 13 42 = some (187, 2, 0) := by decide +kernel
theorem mr_13_46 : mr 13 46 = some (189, 2, 0) := by decide +kernel
theorem mr_12_243 : mr 12 243 = some (188, 1, 0) := by decide +kernel
theorem mr_13_50 : mr 13 50 = some (191, 2, 0) := by decide +kernel
theorem mr_12_246 : mr 12 246 = some (173, 1, 0) := by decide +kernel
theorem mr_12_249 : mr 12 249 = some (190, 2, 0) := by decide +kernel
theorem mr_13_54 : mr 13 54 = some (193, 2, 0) := by decide +kernel
theorem mr_12_256 : mr 12 256 = some (192, 3, 0) := by decide +kernel
theorem mr_12_253 : mr 12 253 = some (182, 1, 0) := by decide +kernel
theorem mr_13_59 : mr 13 59 = some (197, 2, 0) := by decide +kernel
theorem mr_12_270 : mr 12 270 = some (196, 2, 0) := by decide +kernel
theorem mr_12_266 : mr 12 266 = some (195, 3, 0) := by decide +kernel
theorem mr_12_260 : mr 12 260 = some (181, 2, 0) := by decide +kernel
theorem mr_12_233 : mr 12 233 = some (180, 1, 0) := by decide +kernel
theorem mr_12_263 : mr 12 263 = some (194, 2, 0) := by decide +kernel
theorem mr_13_63 : mr 13 63 = some (199, 2, 0) := by decide +kernel
theorem mr_12_276 : mr 12 276 = some (198, 2, 0) := by decide +kernel
theorem mr_13_70 : mr 13 70 = some (201, 2, 0) := by decide +kernel
theorem mr_13_75 : mr 13 75 = some (217, 0, 0) := by decide +kernel
theorem mr_12_350 : mr 12 350 = some (216, 0, 0) := by decide +kernel
theorem mr_12_339 : mr 12 339 = some (206, 0, 0) := by decide +kernel
theorem mr_12_281 : mr 12 281 = some (202, 1, 0) := by decide +kernel
theorem mr_12_310 : mr 12 310 = some (205, 0, 0) := by decide +kernel
theorem mr_12_286 : mr 12 286 = some (204, 1, 0) := by decide +kernel
theorem mr_12_313 : mr 12 313 = some (203, 1, 0) := by decide +kernel
theorem mr_12_323 : mr 12 323 = some (207, 1, 0) := by decide +kernel
theorem mr_12_346 : mr 12 346 = some (215, 0, 0) := by decide +kernel
theorem mr_12_329 : mr 12 329 = some (213, 1, 0) := by decide +kernel
theorem mr_12_326 : mr 12 326 = some (208, 1, 0) := by decide +kernel
theorem mr_12_333 : mr 12 333 = some (212, 1, 0) := by decide +kernel
theorem mr_12_319 : mr 12 319 = some (209, 1, 0) := by decide +kernel
theorem mr_12_336 : mr 12 336 = some (211, 1, 0) := by decide +kernel
theorem mr_12_316 : mr 12 316 = some (210, 1, 0) := by decide +kernel
theorem mr_12_342 : mr 12 342 = some (214, 0, 0) := by decide +kernel
theorem mr_13_79 : mr 13 79 = some (218, 2, 0) := by decide +kernel
theorem mr_13_84 : mr 13 84 = some (222, 4, 0) := by decide +kernel
theorem mr_12_359 : mr 12 359 = some (221, 4, 0) := by decide +kernel
theorem mr_12_356 : mr 12 356 = some (220, 2, 0) := by decide +kernel
theorem mr_12_353 : mr 12 353 = some (219, 3, 0) := by decide +kernel
theorem mr_13_88 : mr 13 88 = some (223, 2, 0) := by decide +kernel
theorem mr_13_93 : mr 13 93 = some (224, 1, 0) := by decide +kernel
theorem mr_13_98 : mr 13 98 = some (225, 5, 0) := by decide +kernel
theorem mr_13_103 : mr 13 103 = some (226, 3, 0) := by decide +kernel
theorem mr_13_107 : mr 13 107 = some (228, 3, 0) := by decide +kernel
theorem mr_13_111 : mr 13 111 = some (231, 4, 0) := by decide +kernel
theorem mr_13_115 : mr 13 115 = some (232, 1, 0) := by decide +kernel
theorem mr_13_119 : mr 13 119 = some (234, 2, 0) := by decide +kernel
theorem mr_12_370 : mr 12 370 = some (227, 1, 0) := by decide +kernel
theorem mr_12_373 : mr 12 373 = some (233, 2, 0) := by decide +kernel
theorem mr_12_366 : mr 12 366 = some (230, 4, 0) := by decide +kernel
theorem mr_12_363 : mr 12 363 = some (229, 1, 0) := by decide +kernel
theorem mr_13_123 : mr 13 123 = some (235, 0, 0) := by decide +kernel
theorem mr_13_127 : mr 13 127 = some (237, 3, 0) := by decide +kernel
theorem mr_12_376 : mr 12 376 = some (235, 0, 0) := by decide +kernel
theorem mr_12_379 : mr 12 379 = some (236, 4, 0) := by decide +kernel
theorem mr_13_131 : mr 13 131 = some (238, 1, 0) := by decide +kernel
theorem mr_13_135 : mr 13 135 = some (239, 3, 0) := by decide +kernel
theorem mr_13_139 : mr 13 139 = some (240, 0, 0) := by decide +kernel
theorem mr_13_143 : mr 13 143 = some (241, 2, 0) := by decide +kernel
theorem mr_13_147 : mr 13 147 = some (244, 3, 0) := by decide +kernel
theorem mr_12_382 : mr 12 382 = some (243, 2, 0) := by decide +kernel
theorem mr_12_385 : mr 12 385 = some (242, 4, 0) := by decide +kernel
theorem mr_13_151 : mr 13 151 = some (246, 4, 0) := by decide +kernel
theorem mr_12_388 : mr 12 388 = some (245, 1, 0) := by decide +kernel
theorem mr_13_155 : mr 13 155 = some (247, 1, 0) := by decide +kernel
theorem mr_13_159 : mr 13 159 = some (250, 3, 0) := by decide +kernel
theorem mr_12_395 : mr 12 395 = some (249, 1, 0) := by decide +kernel
theorem mr_12_391 : mr 12 391 = some (248, 1, 0) := by decide +kernel
theorem mr_13_167 : mr 13 167 = some (252, 1, 0) := by decide +kernel
theorem mr_12_398 : mr 12 398 = some (251, 2, 0) := by decide +kernel
theorem mr_13_163 : mr 13 163 = some (254, 3, 0) := by decide +kernel
theorem mr_12_401 : mr 12 401 = some (253, 1, 0) := by decide +kernel
theorem mr_13_171 : mr 13 171 = some (255, 3, 0) := by decide +kernel
theorem mr_13_175 : mr 13 175 = some (256, 2, 0) := by decide +kernel
theorem mr_13_179 : mr 13 179 = some (257, 1, 0) := by decide +kernel
theorem mr_13_183 : mr 13 183 = some (258, 1, 0) := by decide +kernel
theorem mr_13_187 : mr 13 187 = some (259, 3, 0) := by decide +kernel
theorem mr_13_192 : mr 13 192 = some (260, 1, 0) := by decide +kernel
theorem mr_13_196 : mr 13 196 = some (261, 1, 0) := by decide +kernel
theorem mr_13_200 : mr 13 200 = some (263, 3, 0) := by decide +kernel
theorem mr_12_406 : mr 12 406 = some (262, 1, 0) := by decide +kernel
theorem mr_13_204 : mr 13 204 = some (264, 3, 0) := by decide +kernel
theorem mr_13_208 : mr 13 208 = some (265, 5, 0) := by decide +kernel
theorem mr_13_212 : mr 13 212 = some (266, 5, 0) := by decide +kernel
theorem mr_12_409 : mr 12 409 = some (174, 2, 0) := by decide +kernel
theorem mr_13_216 : mr 13 216 = some (267, 2, 0) := by decide +kernel
/-! field references: class, place in its pool, the field's class, its place there; place of the link's word -/
def frL_0 : List (Nat × Nat × Nat × Nat × Nat) := [(10, 9, 10, 0, 122), (11, 90, 10, 0, 123), (10, 15, 10, 1, 124), (11, 94, 10, 1, 125), (10, 18, 10, 2, 126), (11, 97, 10, 2, 127), (11, 101, 10, 3, 128), (10, 42, 10, 3, 129), (1, 63, 2, 0, 153), (2, 22, 2, 0, 154), (3, 56, 2, 0, 155), (11, 135, 2, 0, 156), (5, 114, 2, 0, 157), (1, 66, 2, 1, 158), (2, 26, 2, 1, 159), (3, 38, 2, 1, 160), (8, 47, 2, 1, 161), (5, 86, 2, 1, 162), (11, 154, 2, 1, 163), (1, 41, 2, 2, 164), (2, 32, 2, 2, 165), (5, 89, 2, 2, 166), (11, 157, 2, 2, 167), (2, 38, 2, 3, 168), (11, 160, 2, 3, 169), (3, 85, 2, 3, 170), (1, 81, 2, 4, 171), (8, 56, 2, 4, 172), (3, 68, 2, 4, 173), (11, 150, 2, 4, 174), (5, 120, 2, 4, 175), (0, 96, 2, 4, 176), (3, 44, 2, 5, 177), (11, 163, 2, 5, 178), (2, 29, 2, 6, 179), (2, 11, 2, 7, 180), (2, 41, 2, 8, 181), (3, 13, 3, 0, 201), (1, 29, 3, 0, 202), (8, 43, 3, 0, 203), (5, 82, 3, 0, 204), (11, 131, 3, 0, 205), (0, 92, 3, 0, 206), (3, 22, 3, 1, 207), (1, 78, 3, 1, 208), (8, 39, 3, 1, 209), (5, 73, 3, 1, 210), (0, 87, 3, 1, 211), (11, 266, 3, 1, 212), (3, 17, 3, 2, 213), (6, 9, 6, 0, 235), (6, 34, 6, 1, 236), (6, 18, 6, 2, 237), (6, 21, 6, 3, 238), (6, 55, 6, 4, 239), (6, 41, 6, 5, 240), (6, 44, 6, 6, 241), (6, 15, 6, 7, 242), (6, 110, 6, 8, 243), (9, 9, 9, 0, 425), (1, 69, 9, 0, 426), (11, 194, 9, 0, 427), (9, 60, 9, 1, 428), (11, 341, 9, 1, 429), (9, 49, 9, 2, 430), (11, 342, 9, 2, 431), (9, 15, 9, 3, 432), (9, 20, 9, 4, 433), (9, 23, 9, 5, 434), (9, 31, 9, 6, 435), (1, 17, 1, 0, 458), (1, 21, 1, 1, 459), (1, 25, 1, 2, 460), (1, 11, 1, 3, 461), (0, 47, 0, 0, 477), (11, 230, 0, 0, 478), (0, 51, 0, 1, 479), (11, 224, 0, 1, 480), (0, 54, 0, 2, 481), (11, 248, 0, 2, 482)]
def frL_1 : List (Nat × Nat × Nat × Nat × Nat) := [(0, 43, 0, 3, 483), (0, 11, 0, 4, 484), (0, 15, 0, 5, 485), (0, 18, 0, 6, 486), (0, 21, 0, 7, 487), (0, 24, 0, 8, 488), (0, 27, 0, 9, 489), (0, 30, 0, 10, 490), (0, 57, 0, 11, 491), (0, 34, 0, 12, 492), (0, 37, 0, 13, 493), (0, 40, 0, 14, 494), (8, 9, 8, 0, 533), (8, 15, 8, 1, 534), (5, 34, 5, 0, 546), (11, 280, 5, 0, 547), (5, 26, 5, 1, 548), (5, 30, 5, 2, 549), (5, 11, 5, 3, 550), (5, 15, 5, 4, 551), (5, 19, 5, 5, 552), (5, 104, 5, 6, 553), (5, 22, 5, 7, 554), (4, 43, 4, 0, 579), (11, 335, 4, 0, 580), (4, 47, 4, 1, 581), (11, 338, 4, 1, 582), (4, 11, 4, 2, 583), (11, 313, 4, 2, 584), (4, 15, 4, 3, 585), (11, 329, 4, 3, 586), (4, 19, 4, 4, 587), (4, 22, 4, 5, 588), (4, 25, 4, 6, 589), (4, 28, 4, 7, 590), (4, 31, 4, 8, 591), (4, 34, 4, 9, 592), (4, 37, 4, 10, 593), (4, 40, 4, 11, 594), (7, 9, 7, 0, 627), (11, 359, 7, 0, 628), (7, 13, 7, 1, 629), (11, 365, 7, 1, 630), (7, 17, 7, 2, 631), (11, 10, 11, 0, 639), (11, 21, 11, 1, 640), (11, 28, 11, 2, 641), (11, 37, 11, 3, 642), (11, 46, 11, 4, 643), (11, 55, 11, 5, 644), (11, 64, 11, 6, 645), (11, 71, 11, 7, 646), (11, 78, 11, 8, 647), (12, 7, 12, 0, 1280), (12, 13, 12, 1, 1281), (12, 16, 12, 2, 1282), (12, 20, 12, 3, 1283), (12, 23, 12, 4, 1284), (12, 26, 12, 5, 1285), (12, 29, 12, 6, 1286), (12, 32, 12, 7, 1287), (12, 35, 12, 8, 1288), (12, 38, 12, 9, 1289), (12, 41, 12, 10, 1290), (12, 44, 12, 11, 1291), (12, 48, 12, 12, 1292), (12, 51, 12, 13, 1293), (12, 55, 12, 14, 1294), (12, 58, 12, 15, 1295), (12, 61, 12, 16, 1296), (12, 64, 12, 17, 1297), (12, 67, 12, 18, 1298), (12, 70, 12, 19, 1299), (12, 73, 12, 20, 1300), (12, 76, 12, 21, 1301), (12, 79, 12, 22, 1302), (12, 82, 12, 23, 1303), (12, 85, 12, 24, 1304), (12, 88, 12, 25, 1305), (12, 91, 12, 26, 1306)]
def frL_2 : List (Nat × Nat × Nat × Nat × Nat) := [(12, 94, 12, 27, 1307), (12, 97, 12, 28, 1308), (12, 100, 12, 29, 1309), (12, 103, 12, 30, 1310), (12, 106, 12, 31, 1311), (12, 109, 12, 32, 1312), (12, 112, 12, 33, 1313), (12, 115, 12, 34, 1314), (12, 118, 12, 35, 1315), (12, 121, 12, 36, 1316), (12, 124, 12, 37, 1317), (12, 127, 12, 38, 1318), (12, 130, 12, 39, 1319), (12, 133, 12, 40, 1320), (12, 136, 12, 41, 1321), (12, 139, 12, 42, 1322), (12, 142, 12, 43, 1323), (12, 145, 12, 44, 1324), (12, 148, 12, 45, 1325), (12, 151, 12, 46, 1326), (12, 154, 12, 47, 1327), (12, 157, 12, 48, 1328), (12, 160, 12, 49, 1329), (12, 163, 12, 50, 1330), (12, 166, 12, 51, 1331), (12, 169, 12, 52, 1332), (12, 172, 12, 53, 1333), (12, 176, 12, 54, 1334), (12, 179, 12, 55, 1335), (12, 182, 12, 56, 1336), (12, 185, 12, 57, 1337), (12, 188, 12, 58, 1338), (12, 191, 12, 59, 1339), (12, 194, 12, 60, 1340), (12, 197, 12, 61, 1341), (12, 200, 12, 62, 1342), (12, 203, 12, 63, 1343), (12, 206, 12, 64, 1344), (12, 209, 12, 65, 1345), (12, 212, 12, 66, 1346)]
def frL : List (Nat × Nat × Nat × Nat × Nat) := frL_0 ++ (frL_1 ++ (frL_2))
def fr (ci ix : Nat) : Option (Nat × Nat) := (frL.find? (fun q => q.1 == ci && q.2.1 == ix)).map (fun q => (q.2.2.1, q.2.2.2.1))
theorem fr_10_9 : fr 10 9 = some (10, 0) := by decide +kernel
theorem fr_11_90 : fr 11 90 = some (10, 0) := by decide +kernel
theorem fr_10_15 : fr 10 15 = some (10, 1) := by decide +kernel
theorem fr_11_94 : fr 11 94 = some (10, 1) := by decide +kernel
theorem fr_10_18 : fr 10 18 = some (10, 2) := by decide +kernel
theorem fr_11_97 : fr 11 97 = some (10, 2) := by decide +kernel
theorem fr_11_101 : fr 11 101 = some (10, 3) := by decide +kernel
theorem fr_10_42 : fr 10 42 = some (10, 3) := by decide +kernel
theorem fr_1_63 : fr 1 63 = some (2, 0) := by decide +kernel
theorem fr_2_22 : fr 2 22 = some (2, 0) := by decide +kernel
theorem fr_3_56 : fr 3 56 = some (2, 0) := by decide +kernel
theorem fr_11_135 : fr 11 135 = some (2, 0) := by decide +kernel
theorem fr_5_114 : fr 5 114 = some (2, 0) := by decide +kernel
theorem fr_1_66 : fr 1 66 = some (2, 1) := by decide +kernel
theorem fr_2_26 : fr 2 26 = some (2, 1) := by decide +kernel
theorem fr_3_38 : fr 3 38 = some (2, 1) := by decide +kernel
theorem fr_8_47 : fr 8 47 = some (2, 1) := by decide +kernel
theorem fr_5_86 : fr 5 86 = some (2, 1) := by decide +kernel
theorem fr_11_154 : fr 11 154 = some (2, 1) := by decide +kernel
theorem fr_1_41 : fr 1 41 = some (2, 2) := by decide +kernel
theorem fr_2_32 : fr 2 32 = some (2, 2) := by decide +kernel
theorem fr_5_89 : fr 5 89 = some (2, 2) := by decide +kernel
theorem fr_11_157 : fr 11 157 = some (2, 2) := by decide +kernel
theorem fr_2_38 : fr 2 38 = some (2, 3) := by decide +kernel
theorem fr_11_160 : fr 11 160 = some (2, 3) := by decide +kernel
theorem fr_3_85 : fr 3 85 = some (2, 3) := by decide +kernel
theorem fr_1_81 : fr 1 81 = some (2, 4) := by decide +kernel
theorem fr_8_56 : fr 8 56 = some (2, 4) := by decide +kernel
theorem fr_3_68 : fr 3 68 = some (2, 4) := by decide +kernel
theorem fr_11_150 : fr 11 150 = some (2, 4) := by decide +kernel
theorem fr_5_120 : fr 5 120 = some (2, 4) := by decide +kernel
theorem fr_0_96 : fr 0 96 = some (2, 4) := by decide +kernel
theorem fr_3_44 : fr 3 44 = some (2, 5) := by decide +kernel
theorem fr_11_163 : fr 11 163 = some (2, 5) := by decide +kernel
theorem fr_2_29 : fr 2 29 = some (2, 6) := by decide +kernel
theorem fr_2_11 : fr 2 11 = some (2, 7) := by decide +kernel
theorem fr_2_41 : fr 2 41 = some (2, 8) := by decide +kernel
theorem fr_3_13 : fr 3 13 = some (3, 0) := by decide +kernel
theorem fr_1_29 : fr 1 29 = some (3, 0) := by decide +kernel
theorem fr_8_43 : fr 8 43 = some (3, 0) := by decide +kernel
theorem fr_5_82 : fr 5 82 = some (3, 0) := by decide +kernel
theorem fr_11_131 : fr 11 131 = some (3, 0) := by decide +kernel
theorem fr_0_92 : fr 0 92 = some (3, 0) := by decide +kernel
theorem fr_3_22 : fr 3 22 = some (3, 1) := by decide +kernel
theorem fr_1_78 : fr 1 78 = some (3, 1) := by decide +kernel
theorem fr_8_39 : fr 8 39 = some (3, 1) := by decide +kernel
theorem fr_5_73 : fr 5 73 = some (3, 1) := by decide +kernel
theorem fr_0_87 : fr 0 87 = some (3, 1) := by decide +kernel
theorem fr_11_266 : fr 11 266 = some (3, 1) := by decide +kernel
theorem fr_3_17 : fr 3 17 = some (3, 2) := by decide +kernel
theorem fr_6_9 : fr 6 9 = some (6, 0) := by decide +kernel
theorem fr_6_34 : fr 6 34 = some (6, 1) := by decide +kernel
theorem fr_6_18 : fr 6 18 = some (6, 2) := by decide +kernel
theorem fr_6_21 : fr 6 21 = some (6, 3) := by decide +kernel
theorem fr_6_55 : fr 6 55 = some (6, 4) := by decide +kernel
theorem fr_6_41 : fr 6 41 = some (6, 5) := by decide +kernel
theorem fr_6_44 : fr 6 44 = some (6, 6) := by decide +kernel
theorem fr_6_15 : fr 6 15 = some (6, 7) := by decide +kernel
theorem fr_6_110 : fr 6 110 = some (6, 8) := by decide +kernel
theorem fr_9_9 : fr 9 9 = some (9, 0) := by decide +kernel
theorem fr_1_69 : fr 1 69 = some (9, 0) := by decide +kernel
theorem fr_11_194 : fr 11 194 = some (9, 0) := by decide +kernel
theorem fr_9_60 : fr 9 60 = some (9, 1) := by decide +kernel
theorem fr_11_341 : fr 11 341 = some (9, 1) := by decide +kernel
theorem fr_9_49 : fr 9 49 = some (9, 2) := by decide +kernel
theorem fr_11_342 : fr 11 342 = some (9, 2) := by decide +kernel
theorem fr_9_15 : fr 9 15 = some (9, 3) := by decide +kernel
theorem fr_9_20 : fr 9 20 = some (9, 4) := by decide +kernel
theorem fr_9_23 : fr 9 23 = some (9, 5) := by decide +kernel
theorem fr_9_31 : fr 9 31 = some (9, 6) := by decide +kernel
theorem fr_1_17 : fr 1 17 = some (1, 0) := by decide +kernel
theorem fr_1_21 : fr 1 21 = some (1, 1) := by decide +kernel
theorem fr_1_25 : fr 1 25 = some (1, 2) := by decide +kernel
theorem fr_1_11 : fr 1 11 = some (1, 3) := by decide +kernel
theorem fr_0_47 : fr 0 47 = some (0, 0) := by decide +kernel
theorem fr_11_230 : fr 11 230 = some (0, 0) := by decide +kernel
theorem fr_0_51 : fr 0 51 = some (0, 1) := by decide +kernel
theorem fr_11_224 : fr 11 224 = some (0, 1) := by decide +kernel
theorem fr_0_54 : fr 0 54 = some (0, 2) := by decide +kernel
theorem fr_11_248 : fr 11 248 = some (0, 2) := by decide +kernel
theorem fr_0_43 : fr 0 43 = some (0, 3) := by decide +kernel
theorem fr_0_11 : fr 0 11 = some (0, 4) := by decide +kernel
theorem fr_0_15 : fr 0 15 = some (0, 5) := by decide +kernel
theorem fr_0_18 : fr 0 18 = some (0, 6) := by decide +kernel
theorem fr_0_21 : fr 0 21 = some (0, 7) := by decide +kernel
theorem fr_0_24 : fr 0 24 = some (0, 8) := by decide +kernel
theorem fr_0_27 : fr 0 27 = some (0, 9) := by decide +kernel
theorem fr_0_30 : fr 0 30 = some (0, 10) := by decide +kernel
theorem fr_0_57 : fr 0 57 = some (0, 11) := by decide +kernel
theorem fr_0_34 : fr 0 34 = some (0, 12) := by decide +kernel
theorem fr_0_37 : fr 0 37 = some (0, 13) := by decide +kernel
theorem fr_0_40 : fr 0 40 = some (0, 14) := by decide +kernel
theorem fr_8_9 : fr 8 9 = some (8, 0) := by decide +kernel
theorem fr_8_15 : fr 8 15 = some (8, 1) := by decide +kernel
theorem fr_5_34 : fr 5 34 = some (5, 0) := by decide +kernel
theorem fr_11_280 : fr 11 280 = some (5, 0) := by decide +kernel
theorem fr_5_26 : fr 5 26 = some (5, 1) := by decide +kernel
theorem fr_5_30 : fr 5 30 = some (5, 2) := by decide +kernel
theorem fr_5_11 : fr 5 11 = some (5, 3) := by decide +kernel
theorem fr_5_15 : fr 5 15 = some (5, 4) := by decide +kernel
theorem fr_5_19 : fr 5 19 = some (5, 5) := by decide +kernel
theorem fr_5_104 : fr 5 104 = some (5, 6) := by decide +kernel
theorem fr_5_22 : fr 5 22 = some (5, 7) := by decide +kernel
theorem fr_4_43 : fr 4 43 = some (4, 0) := by decide +kernel
theorem fr_11_335 : fr 11 335 = some (4, 0) := by decide +kernel
theorem fr_4_47 : fr 4 47 = some (4, 1) := by decide +kernel
theorem fr_11_338 : fr 11 338 = some (4, 1) := by decide +kernel
theorem fr_4_11 : fr 4 11 = some (4, 2) := by decide +kernel
theorem fr_11_313 : fr 11 313 = some (4, 2) := by decide +kernel
theorem fr_4_15 : fr 4 15 = some (4, 3) := by decide +kernel
theorem fr_11_329 : fr 11 329 = some (4, 3) := by decide +kernel
theorem fr_4_19 : fr 4 19 = some (4, 4) := by decide +kernel
theorem fr_4_22 : fr 4 22 = some (4, 5) := by decide +kernel
theorem fr_4_25 : fr 4 25 = some (4, 6) := by decide +kernel
theorem fr_4_28 : fr 4 28 = some (4, 7) := by decide +kernel
theorem fr_4_31 : fr 4 31 = some (4, 8) := by decide +kernel
theorem fr_4_34 : fr 4 34 = some (4, 9) := by decide +kernel
theorem fr_4_37 : fr 4 37 = some (4, 10) := by decide +kernel
theorem fr_4_40 : fr 4 40 = some (4, 11) := by decide +kernel
theorem fr_7_9 : fr 7 9 = some (7, 0) := by decide +kernel
theorem fr_11_359 : fr 11 359 = some (7, 0) := by decide +kernel
theorem fr_7_13 : fr 7 13 = some (7, 1) := by decide +kernel
theorem fr_11_365 : fr 11 365 = some (7, 1) := by decide +kernel
theorem fr_7_17 : fr 7 17 = some (7, 2) := by decide +kernel
theorem fr_11_10 : fr 11 10 = some (11, 0) := by decide +kernel
theorem fr_11_21 : fr 11 21 = some (11, 1) := by decide +kernel
theorem fr_11_28 : fr 11 28 = some (11, 2) := by decide +kernel
theorem fr_11_37 : fr 11 37 = some (11, 3) := by decide +kernel
theorem fr_11_46 : fr 11 46 = some (11, 4) := by decide +kernel
theorem fr_11_55 : fr 11 55 = some (11, 5) := by decide +kernel
theorem fr_11_64 : fr 11 64 = some (11, 6) := by decide +kernel
theorem fr_11_71 : fr 11 71 = some (11, 7) := by decide +kernel
theorem fr_11_78 : fr 11 78 = some (11, 8) := by decide +kernel
theorem fr_12_7 : fr 12 7 = some (12, 0) := by decide +kernel
theorem fr_12_13 : fr 12 13 = some (12, 1) := by decide +kernel
theorem fr_12_16 : fr 12 16 = some (12, 2) := by decide +kernel
theorem fr_12_20 : fr 12 20 = some (12, 3) := by decide +kernel
theorem fr_12_23 : fr 12 23 = some (12, 4) := by decide +kernel
theorem fr_12_26 : fr 12 26 = some (12, 5) := by decide +kernel
theorem fr_12_29 : fr 12 29 = some (12, 6) := by decide +kernel
theorem fr_12_32 : fr 12 32 = some (12, 7) := by decide +kernel
theorem fr_12_35 : fr 12 35 = some (12, 8) := by decide +kernel
theorem fr_12_38 : fr 12 38 = some (12, 9) := by decide +kernel
theorem fr_12_41 : fr 12 41 = some (12, 10) := by decide +kernel
theorem fr_12_44 : fr 12 44 = some (12, 11) := by decide +kernel
theorem fr_12_48 : fr 12 48 = some (12, 12) := by decide +kernel
theorem fr_12_51 : fr 12 51 = some (12, 13) := by decide +kernel
theorem fr_12_55 : fr 12 55 = some (12, 14) := by decide +kernel
theorem fr_12_58 : fr 12 58 = some (12, 15) := by decide +kernel
theorem fr_12_61 : fr 12 61 = some (12, 16) := by decide +kernel
theorem fr_12_64 : fr 12 64 = some (12, 17) := by decide +kernel
theorem fr_12_67 : fr 12 67 = some (12, 18) := by decide +kernel
theorem fr_12_70 : fr 12 70 = some (12, 19) := by decide +kernel
theorem fr_12_73 : fr 12 73 = some (12, 20) := by decide +kernel
theorem fr_12_76 : fr 12 76 = some (12, 21) := by decide +kernel
theorem fr_12_79 : fr 12 79 = some (12, 22) := by decide +kernel
theorem fr_12_82 : fr 12 82 = some (12, 23) := by decide +kernel
theorem fr_12_85 : fr 12 85 = some (12, 24) := by decide +kernel
theorem fr_12_88 : fr 12 88 = some (12, 25) := by decide +kernel
theorem fr_12_91 : fr 12 91 = some (12, 26) := by decide +kernel
theorem fr_12_94 : fr 12 94 = some (12, 27) := by decide +kernel
theorem fr_12_97 : fr 12 97 = some (12, 28) := by decide +kernel
theorem fr_12_100 : fr 12 100 = some (12, 29) := by decide +kernel
theorem fr_12_103 : fr 12 103 = some (12, 30) := by decide +kernel
theorem fr_12_106 : fr 12 106 = some (12, 31) := by decide +kernel
theorem fr_12_109 : fr 12 109 = some (12, 32) := by decide +kernel
theorem fr_12_112 : fr 12 112 = some (12, 33) := by decide +kernel
theorem fr_12_115 : fr 12 115 = some (12, 34) := by decide +kernel
theorem fr_12_118 : fr 12 118 = some (12, 35) := by decide +kernel
theorem fr_12_121 : fr 12 121 = some (12, 36) := by decide +kernel
theorem fr_12_124 : fr 12 124 = some (12, 37) := by decide +kernel
theorem fr_12_127 : fr 12 127 = some (12, 38) := by decide +kernel
theorem fr_12_130 : fr 12 130 = some (12, 39) := by decide +kernel
theorem fr_12_133 : fr 12 133 = some (12, 40) := by decide +kernel
theorem fr_12_136 : fr 12 136 = some (12, 41) := by decide +kernel
theorem fr_12_139 : fr 12 139 = some (12, 42) := by decide +kernel
theorem fr_12_142 : fr 12 142 = some (12, 43) := by decide +kernel
theorem fr_12_145 : fr 12 145 = some (12, 44) := by decide +kernel
theorem fr_12_148 : fr 12 148 = some (12, 45) := by decide +kernel
theorem fr_12_151 : fr 12 151 = some (12, 46) := by decide +kernel
theorem fr_12_154 : fr 12 154 = some (12, 47) := by decide +kernel
theorem fr_12_157 : fr 12 157 = some (12, 48) := by decide +kernel
theorem fr_12_160 : fr 12 160 = some (12, 49) := by decide +kernel
theorem fr_12_163 : fr 12 163 = some (12, 50) := by decide +kernel
theorem fr_12_166 : fr 12 166 = some (12, 51) := by decide +kernel
theorem fr_12_169 : fr 12 169 = some (12, 52) := by decide +kernel
theorem fr_12_172 : fr 12 172 = some (12, 53) := by decide +kernel
theorem fr_12_176 : fr 12 176 = some (12, 54) := by decide +kernel
theorem fr_12_179 : fr 12 179 = some (12, 55) := by decide +kernel
theorem fr_12_182 : fr 12 182 = some (12, 56) := by decide +kernel
theorem fr_12_185 : fr 12 185 = some (12, 57) := by decide +kernel
theorem fr_12_188 : fr 12 188 = some (12, 58) := by decide +kernel
theorem fr_12_191 : fr 12 191 = some (12, 59) := by decide +kernel
theorem fr_12_194 : fr 12 194 = some (12, 60) := by decide +kernel
theorem fr_12_197 : fr 12 197 = some (12, 61) := by decide +kernel
theorem fr_12_200 : fr 12 200 = some (12, 62) := by decide +kernel
theorem fr_12_203 : fr 12 203 = some (12, 63) := by decide +kernel
theorem fr_12_206 : fr 12 206 = some (12, 64) := by decide +kernel
theorem fr_12_209 : fr 12 209 = some (12, 65) := by decide +kernel
theorem fr_12_212 : fr 12 212 = some (12, 66) := by decide +kernel
def grL : List (Nat × Nat × Nat × Nat) := [(2, 35, 1001, 722), (2, 15, 1000, 736), (0, 109, 1002, 964)]
def gr (ci ix : Nat) : Option Nat := (grL.find? (fun q => q.1 == ci && q.2.1 == ix)).map (fun q => q.2.2.1)
theorem gr_2_35 : gr 2 35 = some 1001 := by decide +kernel
theorem gr_2_15 : gr 2 15 = some 1000 := by decide +kernel
theorem gr_0_109 : gr 0 109 = some 1002 := by decide +kernel
def klL : List (Nat × Nat × Int64 × Nat) := [(11, 176, -4611686018427387904, 790), (9, 67, 255, 824), (15, 314, 6148914691236517205, 1110), (15, 316, 3689348814741910323, 1111), (15, 318, 1085102592571150095, 1112), (4, 58, -1, 1208), (11, 333, -1, 1213), (12, 274, -4611686018427387904, 1590), (12, 284, 632645, 1623), (12, 279, 31, 1628), (12, 290, 6194, 1629), (12, 292, 20597040, 1630), (12, 294, 278194, 1631), (12, 296, 370116, 1632), (12, 298, 8554052, 1633), (12, 300, 86148200, 1634), (12, 302, 20200948, 1635), (12, 304, 498, 1636), (12, 306, 1476, 1637), (12, 308, 14836, 1638), (12, 404, -1, 1848), (13, 64, 4294967295, 1882)]
def kl (ci ix : Nat) : Option Int64 := (klL.find? (fun q => q.1 == ci && q.2.1 == ix)).map (fun q => q.2.2.1)
theorem kl_11_176 : kl 11 176 = some (-4611686018427387904) := by decide +kernel
theorem kl_9_67 : kl 9 67 = some (255) := by decide +kernel
theorem kl_15_314 : kl 15 314 = some (6148914691236517205) := by decide +kernel
theorem kl_15_316 : kl 15 316 = some (3689348814741910323) := by decide +kernel
theorem kl_15_318 : kl 15 318 = some (1085102592571150095) := by decide +kernel
theorem kl_4_58 : kl 4 58 = some (-1) := by decide +kernel
theorem kl_11_333 : kl 11 333 = some (-1) := by decide +kernel
theorem kl_12_274 : kl 12 274 = some (-4611686018427387904) := by decide +kernel
theorem kl_12_284 : kl 12 284 = some (632645) := by decide +kernel
theorem kl_12_279 : kl 12 279 = some (31) := by decide +kernel
theorem kl_12_290 : kl 12 290 = some (6194) := by decide +kernel
theorem kl_12_292 : kl 12 292 = some (20597040) := by decide +kernel
theorem kl_12_294 : kl 12 294 = some (278194) := by decide +kernel
theorem kl_12_296 : kl 12 296 = some (370116) := by decide +kernel
theorem kl_12_298 : kl 12 298 = some (8554052) := by decide +kernel
theorem kl_12_300 : kl 12 300 = some (86148200) := by decide +kernel
theorem kl_12_302 : kl 12 302 = some (20200948) := by decide +kernel
theorem kl_12_304 : kl 12 304 = some (498) := by decide +kernel
theorem kl_12_306 : kl 12 306 = some (1476) := by decide +kernel
theorem kl_12_308 : kl 12 308 = some (14836) := by decide +kernel
theorem kl_12_404 : kl 12 404 = some (-1) := by decide +kernel
theorem kl_13_64 : kl 13 64 = some (4294967295) := by decide +kernel
def kiL : List (Nat × Nat × Int32 × Nat) := [(14, 265, 1431655765, 949), (14, 266, 858993459, 950), (14, 267, 252645135, 951)]
def ki (ci ix : Nat) : Option Int32 := (kiL.find? (fun q => q.1 == ci && q.2.1 == ix)).map (fun q => q.2.2.1)
theorem ki_14_265 : ki 14 265 = some (1431655765) := by decide +kernel
theorem ki_14_266 : ki 14 266 = some (858993459) := by decide +kernel
theorem ki_14_267 : ki 14 267 = some (252645135) := by decide +kernel
def ksL : List (Nat × Nat × Nat × Nat) := [(9, 35, 1010, 263), (6, 75, 1011, 346), (6, 80, 1012, 353), (6, 82, 1013, 354), (6, 84, 1014, 355), (6, 86, 1015, 356), (6, 88, 1016, 357), (6, 90, 1017, 358), (6, 92, 1018, 359), (6, 94, 1019, 360), (6, 96, 1020, 361), (6, 98, 1021, 362)]
def ks (ci ix : Nat) : Option Nat := (ksL.find? (fun q => q.1 == ci && q.2.1 == ix)).map (fun q => q.2.2.1)
theorem ks_9_35 : ks 9 35 = some 1010 := by decide +kernel
theorem ks_6_75 : ks 6 75 = some 1011 := by decide +kernel
theorem ks_6_80 : ks 6 80 = some 1012 := by decide +kernel
theorem ks_6_82 : ks 6 82 = some 1013 := by decide +kernel
theorem ks_6_84 : ks 6 84 = some 1014 := by decide +kernel
theorem ks_6_86 : ks 6 86 = some 1015 := by decide +kernel
theorem ks_6_88 : ks 6 88 = some 1016 := by decide +kernel
theorem ks_6_90 : ks 6 90 = some 1017 := by decide +kernel
theorem ks_6_92 : ks 6 92 = some 1018 := by decide +kernel
theorem ks_6_94 : ks 6 94 = some 1019 := by decide +kernel
theorem ks_6_96 : ks 6 96 = some 1020 := by decide +kernel
theorem ks_6_98 : ks 6 98 = some 1021 := by decide +kernel
def ksT : List String := ["breach strip and 0 < size or far < 0 ; shoot 0 < heard ;", "size", "far", "strip", "hour", "kind", "heard", "breach", "shoot", "or", "and", "not"]
def nrL : List (Nat × Nat × Nat × Nat) := [(13, 7, 11, 105), (11, 7, 10, 113), (11, 16, 3, 140), (3, 11, 2, 146), (11, 25, 9, 221), (9, 18, 106, 227), (9, 26, 6, 229), (11, 32, 1, 452), (11, 41, 0, 471), (11, 50, 8, 527), (11, 59, 5, 540), (11, 68, 4, 573), (11, 75, 7, 620), (13, 10, 12, 1270)]
def nr (ci ix : Nat) : Option Nat := (nrL.find? (fun q => q.1 == ci && q.2.1 == ix)).map (fun q => q.2.2.1)
theorem nr_13_7 : nr 13 7 = some 11 := by decide +kernel
theorem nr_11_7 : nr 11 7 = some 10 := by decide +kernel
theorem nr_11_16 : nr 11 16 = some 3 := by decide +kernel
theorem nr_3_11 : nr 3 11 = some 2 := by decide +kernel
theorem nr_11_25 : nr 11 25 = some 9 := by decide +kernel
theorem nr_9_18 : nr 9 18 = some 106 := by decide +kernel
theorem nr_9_26 : nr 9 26 = some 6 := by decide +kernel
theorem nr_11_32 : nr 11 32 = some 1 := by decide +kernel
theorem nr_11_41 : nr 11 41 = some 0 := by decide +kernel
theorem nr_11_50 : nr 11 50 = some 8 := by decide +kernel
theorem nr_11_59 : nr 11 59 = some 5 := by decide +kernel
theorem nr_11_68 : nr 11 68 = some 4 := by decide +kernel
theorem nr_11_75 : nr 11 75 = some 7 := by decide +kernel
theorem nr_13_10 : nr 13 10 = some 12 := by decide +kernel
/-! the cells, in the order in which they are made: (0, n) int[n], 1 byte, 2 boolean, 3 long, 4 Mark[], 5 Sheet[], 6 int[][], (10, c) an object of class c -/
def kKL_0 : List (Nat × Nat) := [(10, 11), (10, 10), (0, 64), (0, 8), (10, 3), (4, 16), (10, 2), (0, 6), (10, 2), (0, 6), (10, 2), (0, 6), (10, 2), (0, 6), (10, 2), (0, 6), (10, 2), (0, 6), (10, 2), (0, 6), (10, 2), (0, 6), (10, 2), (0, 6), (10, 2), (0, 6), (10, 2), (0, 6), (10, 2), (0, 6), (10, 2), (0, 6), (10, 2), (0, 6), (10, 2), (0, 6), (10, 2), (0, 6), (10, 9), (0, 3), (0, 160), (6, 12), (0, 161), (0, 161), (0, 161), (0, 161), (0, 161), (0, 161), (0, 161), (0, 161), (0, 161), (0, 161), (0, 161), (0, 161), (0, 160), (10, 6), (0, 161), (0, 161), (10, 1), (0, 6), (10, 0), (0, 12), (0, 12), (0, 12), (0, 24), (0, 24), (0, 24), (2, 24), (0, 10), (0, 10), (0, 10), (10, 8), (10, 5), (0, 10), (3, 10), (0, 7), (2, 128), (10, 4), (0, 20), (3, 2)]
def kKL_1 : List (Nat × Nat) := [(0, 12), (0, 12), (0, 12), (0, 12), (0, 12), (0, 20), (0, 20), (0, 20), (5, 4), (10, 7), (0, 40), (10, 7), (0, 40), (10, 7), (0, 40), (10, 7), (0, 40), (10, 12), (0, 64), (0, 8), (0, 16), (0, 16), (0, 16), (0, 16), (0, 16), (0, 96), (2, 16), (2, 16), (1, 160), (0, 3), (0, 12), (0, 1920), (0, 161), (2, 7), (0, 6), (0, 161), (0, 12), (0, 12), (0, 12), (0, 12), (0, 12), (0, 12), (0, 12), (0, 12), (0, 24), (0, 24), (0, 24), (0, 24), (0, 10), (0, 10), (0, 10), (2, 24), (0, 10), (3, 10), (0, 7), (2, 128), (0, 20), (0, 20), (0, 20), (0, 20), (3, 2), (0, 4), (0, 4), (0, 160), (0, 40)]
def kKL : List (Nat × Nat) := kKL_0 ++ (kKL_1)
def kK (a : Nat) : Nat × Nat := if a < 1000 then (kKL[a]?).getD (99, 0) else if a = 1000 then (7, 6) else if a = 1001 then (7, 6) else if a = 1002 then (7, 4) else if a < 1022 then (20, a - 1010) else (99, 0)
theorem kK_0 : kK 0 = (10, 11) := by decide +kernel
theorem kK_1 : kK 1 = (10, 10) := by decide +kernel
theorem kK_2 : kK 2 = (0, 64) := by decide +kernel
theorem kK_3 : kK 3 = (0, 8) := by decide +kernel
theorem kK_4 : kK 4 = (10, 3) := by decide +kernel
theorem kK_5 : kK 5 = (4, 16) := by decide +kernel
theorem kK_6 : kK 6 = (10, 2) := by decide +kernel
theorem kK_7 : kK 7 = (0, 6) := by decide +kernel
theorem kK_8 : kK 8 = (10, 2) := by decide +kernel
theorem kK_9 : kK 9 = (0, 6) := by decide +kernel
theorem kK_10 : kK 10 = (10, 2) := by decide +kernel
theorem kK_11 : kK 11 = (0, 6) := by decide +kernel
theorem kK_12 : kK 12 = (10, 2) := by decide +kernel
theorem kK_13 : kK 13 = (0, 6) := by decide +kernel
theorem kK_14 : kK 14 = (10, 2) := by decide +kernel
theorem kK_15 : kK 15 = (0, 6) := by decide +kernel
theorem kK_16 : kK 16 = (10, 2) := by decide +kernel
theorem kK_17 : kK 17 = (0, 6) := by decide +kernel
theorem kK_18 : kK 18 = (10, 2) := by decide +kernel
theorem kK_19 : kK 19 = (0, 6) := by decide +kernel
theorem kK_20 : kK 20 = (10, 2) := by decide +kernel
theorem kK_21 : kK 21 = (0, 6) := by decide +kernel
theorem kK_22 : kK 22 = (10, 2) := by decide +kernel
theorem kK_23 : kK 23 = (0, 6) := by decide +kernel
theorem kK_24 : kK 24 = (10, 2) := by decide +kernel
theorem kK_25 : kK 25 = (0, 6) := by decide +kernel
theorem kK_26 : kK 26 = (10, 2) := by decide +kernel
theorem kK_27 : kK 27 = (0, 6) := by decide +kernel
theorem kK_28 : kK 28 = (10, 2) := by decide +kernel
theorem kK_29 : kK 29 = (0, 6) := by decide +kernel
theorem kK_30 : kK 30 = (10, 2) := by decide +kernel
theorem kK_31 : kK 31 = (0, 6) := by decide +kernel
theorem kK_32 : kK 32 = (10, 2) := by decide +kernel
theorem kK_33 : kK 33 = (0, 6) := by decide +kernel
theorem kK_34 : kK 34 = (10, 2) := by decide +kernel
theorem kK_35 : kK 35 = (0, 6) := by decide +kernel
theorem kK_36 : kK 36 = (10, 2) := by decide +kernel
theorem kK_37 : kK 37 = (0, 6) := by decide +kernel
theorem kK_38 : kK 38 = (10, 9) := by decide +kernel
theorem kK_39 : kK 39 = (0, 3) := by decide +kernel
theorem kK_40 : kK 40 = (0, 160) := by decide +kernel
theorem kK_41 : kK 41 = (6, 12) := by decide +kernel
theorem kK_42 : kK 42 = (0, 161) := by decide +kernel
theorem kK_43 : kK 43 = (0, 161) := by decide +kernel
theorem kK_44 : kK 44 = (0, 161) := by decide +kernel
theorem kK_45 : kK 45 = (0, 161) := by decide +kernel
theorem kK_46 : kK 46 = (0, 161) := by decide +kernel
theorem kK_47 : kK 47 = (0, 161) := by decide +kernel
theorem kK_48 : kK 48 = (0, 161) := by decide +kernel
theorem kK_49 : kK 49 = (0, 161) := by decide +kernel
theorem kK_50 : kK 50 = (0, 161) := by decide +kernel
theorem kK_51 : kK 51 = (0, 161) := by decide +kernel
theorem kK_52 : kK 52 = (0, 161) := by decide +kernel
theorem kK_53 : kK 53 = (0, 161) := by decide +kernel
theorem kK_54 : kK 54 = (0, 160) := by decide +kernel
theorem kK_55 : kK 55 = (10, 6) := by decide +kernel
theorem kK_56 : kK 56 = (0, 161) := by decide +kernel
theorem kK_57 : kK 57 = (0, 161) := by decide +kernel
theorem kK_58 : kK 58 = (10, 1) := by decide +kernel
theorem kK_59 : kK 59 = (0, 6) := by decide +kernel
theorem kK_60 : kK 60 = (10, 0) := by decide +kernel
theorem kK_61 : kK 61 = (0, 12) := by decide +kernel
theorem kK_62 : kK 62 = (0, 12) := by decide +kernel
theorem kK_63 : kK 63 = (0, 12) := by decide +kernel
theorem kK_64 : kK 64 = (0, 24) := by decide +kernel
theorem kK_65 : kK 65 = (0, 24) := by decide +kernel
theorem kK_66 : kK 66 = (0, 24) := by decide +kernel
theorem kK_67 : kK 67 = (2, 24) := by decide +kernel
theorem kK_68 : kK 68 = (0, 10) := by decide +kernel
theorem kK_69 : kK 69 = (0, 10) := by decide +kernel
theorem kK_70 : kK 70 = (0, 10) := by decide +kernel
theorem kK_71 : kK 71 = (10, 8) := by decide +kernel
theorem kK_72 : kK 72 = (10, 5) := by decide +kernel
theorem kK_73 : kK 73 = (0, 10) := by decide +kernel
theorem kK_74 : kK 74 = (3, 10) := by decide +kernel
theorem kK_75 : kK 75 = (0, 7) := by decide +kernel
theorem kK_76 : kK 76 = (2, 128) := by decide +kernel
theorem kK_77 : kK 77 = (10, 4) := by decide +kernel
theorem kK_78 : kK 78 = (0, 20) := by decide +kernel
theorem kK_79 : kK 79 = (3, 2) := by decide +kernel
theorem kK_80 : kK 80 = (0, 12) := by decide +kernel
theorem kK_81 : kK 81 = (0, 12) := by decide +kernel
theorem kK_82 : kK 82 = (0, 12) := by decide +kernel
theorem kK_83 : kK 83 = (0, 12) := by decide +kernel
theorem kK_84 : kK 84 = (0, 12) := by decide +kernel
theorem kK_85 : kK 85 = (0, 20) := by decide +kernel
theorem kK_86 : kK 86 = (0, 20) := by decide +kernel
theorem kK_87 : kK 87 = (0, 20) := by decide +kernel
theorem kK_88 : kK 88 = (5, 4) := by decide +kernel
theorem kK_89 : kK 89 = (10, 7) := by decide +kernel
theorem kK_90 : kK 90 = (0, 40) := by decide +kernel
theorem kK_91 : kK 91 = (10, 7) := by decide +kernel
theorem kK_92 : kK 92 = (0, 40) := by decide +kernel
theorem kK_93 : kK 93 = (10, 7) := by decide +kernel
theorem kK_94 : kK 94 = (0, 40) := by decide +kernel
theorem kK_95 : kK 95 = (10, 7) := by decide +kernel
theorem kK_96 : kK 96 = (0, 40) := by decide +kernel
theorem kK_97 : kK 97 = (10, 12) := by decide +kernel
theorem kK_98 : kK 98 = (0, 64) := by decide +kernel
theorem kK_99 : kK 99 = (0, 8) := by decide +kernel
theorem kK_100 : kK 100 = (0, 16) := by decide +kernel
theorem kK_101 : kK 101 = (0, 16) := by decide +kernel
theorem kK_102 : kK 102 = (0, 16) := by decide +kernel
theorem kK_103 : kK 103 = (0, 16) := by decide +kernel
theorem kK_104 : kK 104 = (0, 16) := by decide +kernel
theorem kK_105 : kK 105 = (0, 96) := by decide +kernel
theorem kK_106 : kK 106 = (2, 16) := by decide +kernel
theorem kK_107 : kK 107 = (2, 16) := by decide +kernel
theorem kK_108 : kK 108 = (1, 160) := by decide +kernel
theorem kK_109 : kK 109 = (0, 3) := by decide +kernel
theorem kK_110 : kK 110 = (0, 12) := by decide +kernel
theorem kK_111 : kK 111 = (0, 1920) := by decide +kernel
theorem kK_112 : kK 112 = (0, 161) := by decide +kernel
theorem kK_113 : kK 113 = (2, 7) := by decide +kernel
theorem kK_114 : kK 114 = (0, 6) := by decide +kernel
theorem kK_115 : kK 115 = (0, 161) := by decide +kernel
theorem kK_116 : kK 116 = (0, 12) := by decide +kernel
theorem kK_117 : kK 117 = (0, 12) := by decide +kernel
theorem kK_118 : kK 118 = (0, 12) := by decide +kernel
theorem kK_119 : kK 119 = (0, 12) := by decide +kernel
theorem kK_120 : kK 120 = (0, 12) := by decide +kernel
theorem kK_121 : kK 121 = (0, 12) := by decide +kernel
theorem kK_122 : kK 122 = (0, 12) := by decide +kernel
theorem kK_123 : kK 123 = (0, 12) := by decide +kernel
theorem kK_124 : kK 124 = (0, 24) := by decide +kernel
theorem kK_125 : kK 125 = (0, 24) := by decide +kernel
theorem kK_126 : kK 126 = (0, 24) := by decide +kernel
theorem kK_127 : kK 127 = (0, 24) := by decide +kernel
theorem kK_128 : kK 128 = (0, 10) := by decide +kernel
theorem kK_129 : kK 129 = (0, 10) := by decide +kernel
theorem kK_130 : kK 130 = (0, 10) := by decide +kernel
theorem kK_131 : kK 131 = (2, 24) := by decide +kernel
theorem kK_132 : kK 132 = (0, 10) := by decide +kernel
theorem kK_133 : kK 133 = (3, 10) := by decide +kernel
theorem kK_134 : kK 134 = (0, 7) := by decide +kernel
theorem kK_135 : kK 135 = (2, 128) := by decide +kernel
theorem kK_136 : kK 136 = (0, 20) := by decide +kernel
theorem kK_137 : kK 137 = (0, 20) := by decide +kernel
theorem kK_138 : kK 138 = (0, 20) := by decide +kernel
theorem kK_139 : kK 139 = (0, 20) := by decide +kernel
theorem kK_140 : kK 140 = (3, 2) := by decide +kernel
theorem kK_141 : kK 141 = (0, 4) := by decide +kernel
theorem kK_142 : kK 142 = (0, 4) := by decide +kernel
theorem kK_143 : kK 143 = (0, 160) := by decide +kernel
theorem kK_144 : kK 144 = (0, 40) := by decide +kernel
theorem kK_1000 : kK 1000 = (7, 6) := by decide +kernel
theorem kK_1001 : kK 1001 = (7, 6) := by decide +kernel
theorem kK_1002 : kK 1002 = (7, 4) := by decide +kernel
theorem kK_1010 : kK 1010 = (20, 0) := by decide +kernel
theorem kK_1011 : kK 1011 = (20, 1) := by decide +kernel
theorem kK_1012 : kK 1012 = (20, 2) := by decide +kernel
theorem kK_1013 : kK 1013 = (20, 3) := by decide +kernel
theorem kK_1014 : kK 1014 = (20, 4) := by decide +kernel
theorem kK_1015 : kK 1015 = (20, 5) := by decide +kernel
theorem kK_1016 : kK 1016 = (20, 6) := by decide +kernel
theorem kK_1017 : kK 1017 = (20, 7) := by decide +kernel
theorem kK_1018 : kK 1018 = (20, 8) := by decide +kernel
theorem kK_1019 : kK 1019 = (20, 9) := by decide +kernel
theorem kK_1020 : kK 1020 = (20, 10) := by decide +kernel
theorem kK_1021 : kK 1021 = (20, 11) := by decide +kernel
theorem kK_mark : ∀ m, m < 16 → kK (6 + 2 * m) = (10, 2) := by decide +kernel
theorem kK_steps : ∀ m, m < 16 → kK (7 + 2 * m) = (0, 6) := by decide +kernel
theorem kK_code : ∀ m, m < 12 → kK (42 + m) = (0, 161) := by decide +kernel
theorem kK_sheet : ∀ m, m < 4 → kK (89 + 2 * m) = (10, 7) := by decide +kernel
theorem kK_items : ∀ m, m < 4 → kK (90 + 2 * m) = (0, 40) := by decide +kernel
def rRL_0 : List (Nat × Nat × Nat) := [(0, 0, 1), (0, 1, 4), (0, 2, 38), (0, 3, 58), (0, 4, 60), (0, 5, 71), (0, 6, 72), (0, 7, 77), (0, 8, 88), (1, 0, 2), (1, 1, 3), (4, 0, 5), (4, 2, 1), (38, 0, 39), (38, 3, 40), (38, 4, 41), (38, 5, 54), (38, 6, 55), (55, 0, 40), (55, 2, 56), (55, 3, 57), (58, 0, 1), (58, 1, 4), (58, 2, 38), (58, 3, 59), (60, 3, 4), (60, 4, 61), (60, 5, 62), (60, 6, 63), (60, 7, 64), (60, 8, 65), (60, 9, 66), (60, 10, 67), (60, 12, 68), (60, 13, 69), (60, 14, 70), (71, 0, 4), (71, 1, 58), (72, 1, 1), (72, 2, 4), (72, 3, 73), (72, 4, 74), (72, 5, 75), (72, 7, 76), (77, 2, 78), (77, 3, 79), (77, 4, 80), (77, 5, 81), (77, 6, 82), (77, 7, 83), (77, 8, 84), (77, 9, 85), (77, 10, 86), (77, 11, 87), (97, 0, 98), (97, 1, 99), (97, 5, 100), (97, 6, 101), (97, 7, 102), (97, 8, 103)]
def rRL_1 : List (Nat × Nat × Nat) := [(97, 9, 104), (97, 10, 105), (97, 11, 106), (97, 12, 107), (97, 13, 108), (97, 16, 109), (97, 17, 110), (97, 18, 111), (97, 23, 112), (97, 24, 113), (97, 29, 114), (97, 30, 115), (97, 32, 116), (97, 33, 117), (97, 34, 118), (97, 35, 119), (97, 36, 120), (97, 40, 121), (97, 41, 122), (97, 42, 123), (97, 43, 124), (97, 44, 125), (97, 45, 126), (97, 46, 127), (97, 47, 128), (97, 48, 129), (97, 49, 130), (97, 50, 131), (97, 52, 132), (97, 53, 133), (97, 54, 134), (97, 56, 135), (97, 58, 136), (97, 59, 137), (97, 60, 138), (97, 61, 139), (97, 62, 140), (97, 63, 141), (97, 64, 142), (97, 65, 143), (97, 66, 144)]
def rRL : List (Nat × Nat × Nat) := rRL_0 ++ (rRL_1)
/-- the references, once all is made; c: which row the Reader writes to -/
def rR (c : Nat) : Nat → Nat → Option Nat := fun a j => if a = 5 then (if j < 16 then some (6 + 2 * j) else none) else if a = 41 then (if j < 12 then some (42 + j) else none) else if a = 88 then (if j < 4 then some (89 + 2 * j) else none) else if a = 55 ∧ j = 7 then some (42 + c) else if kK a = (10, 2) then (if j = 7 then some (a + 1) else none) else if kK a = (10, 7) then (if j = 1 then some (a + 1) else none) else (rRL.find? (fun q => q.1 == a && q.2.1 == j)).map (fun q => q.2.2)
theorem rR_0_0 (c : Nat) : rR c 0 0 = some 1 := by simp [rR, kK_0]; decide +kernel
theorem rR_0_1 (c : Nat) : rR c 0 1 = some 4 := by simp [rR, kK_0]; decide +kernel
theorem rR_0_2 (c : Nat) : rR c 0 2 = some 38 := by simp [rR, kK_0]; decide +kernel
theorem rR_0_3 (c : Nat) : rR c 0 3 = some 58 := by simp [rR, kK_0]; decide +kernel
theorem rR_0_4 (c : Nat) : rR c 0 4 = some 60 := by simp [rR, kK_0]; decide +kernel
theorem rR_0_5 (c : Nat) : rR c 0 5 = some 71 := by simp [rR, kK_0]; decide +kernel
theorem rR_0_6 (c : Nat) : rR c 0 6 = some 72 := by simp [rR, kK_0]; decide +kernel
theorem rR_0_7 (c : Nat) : rR c 0 7 = some 77 := by simp [rR, kK_0]; decide +kernel
theorem rR_0_8 (c : Nat) : rR c 0 8 = some 88 := by simp [rR, kK_0]; decide +kernel
theorem rR_1_0 (c : Nat) : rR c 1 0 = some 2 := by simp [rR, kK_1]; decide +kernel
theorem rR_1_1 (c : Nat) : rR c 1 1 = some 3 := by simp [rR, kK_1]; decide +kernel
theorem rR_4_0 (c : Nat) : rR c 4 0 = some 5 := by simp [rR, kK_4]; decide +kernel
theorem rR_4_2 (c : Nat) : rR c 4 2 = some 1 := by simp [rR, kK_4]; decide +kernel
theorem rR_38_0 (c : Nat) : rR c 38 0 = some 39 := by simp [rR, kK_38]; decide +kernel
theorem rR_38_3 (c : Nat) : rR c 38 3 = some 40 := by simp [rR, kK_38]; decide +kernel
theorem rR_38_4 (c : Nat) : rR c 38 4 = some 41 := by simp [rR, kK_38]; decide +kernel
theorem rR_38_5 (c : Nat) : rR c 38 5 = some 54 := by simp [rR, kK_38]; decide +kernel
theorem rR_38_6 (c : Nat) : rR c 38 6 = some 55 := by simp [rR, kK_38]; decide +kernel
theorem rR_55_0 (c : Nat) : rR c 55 0 = some 40 := by simp [rR, kK_55]; decide +kernel
theorem rR_55_2 (c : Nat) : rR c 55 2 = some 56 := by simp [rR, kK_55]; decide +kernel
theorem rR_55_3 (c : Nat) : rR c 55 3 = some 57 := by simp [rR, kK_55]; decide +kernel
theorem rR_58_0 (c : Nat) : rR c 58 0 = some 1 := by simp [rR, kK_58]; decide +kernel
theorem rR_58_1 (c : Nat) : rR c 58 1 = some 4 := by simp [rR, kK_58]; decide +kernel
theorem rR_58_2 (c : Nat) : rR c 58 2 = some 38 := by simp [rR, kK_58]; decide +kernel
theorem rR_58_3 (c : Nat) : rR c 58 3 = some 59 := by simp [rR, kK_58]; decide +kernel
theorem rR_60_3 (c : Nat) : rR c 60 3 = some 4 := by simp [rR, kK_60]; decide +kernel
theorem rR_60_4 (c : Nat) : rR c 60 4 = some 61 := by simp [rR, kK_60]; decide +kernel
theorem rR_60_5 (c : Nat) : rR c 60 5 = some 62 := by simp [rR, kK_60]; decide +kernel
theorem rR_60_6 (c : Nat) : rR c 60 6 = some 63 := by simp [rR, kK_60]; decide +kernel
theorem rR_60_7 (c : Nat) : rR c 60 7 = some 64 := by simp [rR, kK_60]; decide +kernel
theorem rR_60_8 (c : Nat) : rR c 60 8 = some 65 := by simp [rR, kK_60]; decide +kernel
theorem rR_60_9 (c : Nat) : rR c 60 9 = some 66 := by simp [rR, kK_60]; decide +kernel
theorem rR_60_10 (c : Nat) : rR c 60 10 = some 67 := by simp [rR, kK_60]; decide +kernel
theorem rR_60_12 (c : Nat) : rR c 60 12 = some 68 := by simp [rR, kK_60]; decide +kernel
theorem rR_60_13 (c : Nat) : rR c 60 13 = some 69 := by simp [rR, kK_60]; decide +kernel
theorem rR_60_14 (c : Nat) : rR c 60 14 = some 70 := by simp [rR, kK_60]; decide +kernel
theorem rR_71_0 (c : Nat) : rR c 71 0 = some 4 := by simp [rR, kK_71]; decide +kernel
theorem rR_71_1 (c : Nat) : rR c 71 1 = some 58 := by simp [rR, kK_71]; decide +kernel
theorem rR_72_1 (c : Nat) : rR c 72 1 = some 1 := by simp [rR, kK_72]; decide +kernel
theorem rR_72_2 (c : Nat) : rR c 72 2 = some 4 := by simp [rR, kK_72]; decide +kernel
theorem rR_72_3 (c : Nat) : rR c 72 3 = some 73 := by simp [rR, kK_72]; decide +kernel
theorem rR_72_4 (c : Nat) : rR c 72 4 = some 74 := by simp [rR, kK_72]; decide +kernel
theorem rR_72_5 (c : Nat) : rR c 72 5 = some 75 := by simp [rR, kK_72]; decide +kernel
theorem rR_72_7 (c : Nat) : rR c 72 7 = some 76 := by simp [rR, kK_72]; decide +kernel
theorem rR_77_2 (c : Nat) : rR c 77 2 = some 78 := by simp [rR, kK_77]; decide +kernel
theorem rR_77_3 (c : Nat) : rR c 77 3 = some 79 := by simp [rR, kK_77]; decide +kernel
theorem rR_77_4 (c : Nat) : rR c 77 4 = some 80 := by simp [rR, kK_77]; decide +kernel
theorem rR_77_5 (c : Nat) : rR c 77 5 = some 81 := by simp [rR, kK_77]; decide +kernel
theorem rR_77_6 (c : Nat) : rR c 77 6 = some 82 := by simp [rR, kK_77]; decide +kernel
theorem rR_77_7 (c : Nat) : rR c 77 7 = some 83 := by simp [rR, kK_77]; decide +kernel
theorem rR_77_8 (c : Nat) : rR c 77 8 = some 84 := by simp [rR, kK_77]; decide +kernel
theorem rR_77_9 (c : Nat) : rR c 77 9 = some 85 := by simp [rR, kK_77]; decide +kernel
theorem rR_77_10 (c : Nat) : rR c 77 10 = some 86 := by simp [rR, kK_77]; decide +kernel
theorem rR_77_11 (c : Nat) : rR c 77 11 = some 87 := by simp [rR, kK_77]; decide +kernel
theorem rR_97_0 (c : Nat) : rR c 97 0 = some 98 := by simp [rR, kK_97]; decide +kernel
theorem rR_97_1 (c : Nat) : rR c 97 1 = some 99 := by simp [rR, kK_97]; decide +kernel
theorem rR_97_5 (c : Nat) : rR c 97 5 = some 100 := by simp [rR, kK_97]; decide +kernel
theorem rR_97_6 (c : Nat) : rR c 97 6 = some 101 := by simp [rR, kK_97]; decide +kernel
theorem rR_97_7 (c : Nat) : rR c 97 7 = some 102 := by simp [rR, kK_97]; decide +kernel
theorem rR_97_8 (c : Nat) : rR c 97 8 = some 103 := by simp [rR, kK_97]; decide +kernel
theorem rR_97_9 (c : Nat) : rR c 97 9 = some 104 := by simp [rR, kK_97]; decide +kernel
theorem rR_97_10 (c : Nat) : rR c 97 10 = some 105 := by simp [rR, kK_97]; decide +kernel
theorem rR_97_11 (c : Nat) : rR c 97 11 = some 106 := by simp [rR, kK_97]; decide +kernel
theorem rR_97_12 (c : Nat) : rR c 97 12 = some 107 := by simp [rR, kK_97]; decide +kernel
theorem rR_97_13 (c : Nat) : rR c 97 13 = some 108 := by simp [rR, kK_97]; decide +kernel
theorem rR_97_16 (c : Nat) : rR c 97 16 = some 109 := by simp [rR, kK_97]; decide +kernel
theorem rR_97_17 (c : Nat) : rR c 97 17 = some 110 := by simp [rR, kK_97]; decide +kernel
theorem rR_97_18 (c : Nat) : rR c 97 18 = some 111 := by simp [rR, kK_97]; decide +kernel
theorem rR_97_23 (c : Nat) : rR c 97 23 = some 112 := by simp [rR, kK_97]; decide +kernel
theorem rR_97_24 (c : Nat) : rR c 97 24 = some 113 := by simp [rR, kK_97]; decide +kernel
theorem rR_97_29 (c : Nat) : rR c 97 29 = some 114 := by simp [rR, kK_97]; decide +kernel
theorem rR_97_30 (c : Nat) : rR c 97 30 = some 115 := by simp [rR, kK_97]; decide +kernel
theorem rR_97_32 (c : Nat) : rR c 97 32 = some 116 := by simp [rR, kK_97]; decide +kernel
theorem rR_97_33 (c : Nat) : rR c 97 33 = some 117 := by simp [rR, kK_97]; decide +kernel
theorem rR_97_34 (c : Nat) : rR c 97 34 = some 118 := by simp [rR, kK_97]; decide +kernel
theorem rR_97_35 (c : Nat) : rR c 97 35 = some 119 := by simp [rR, kK_97]; decide +kernel
theorem rR_97_36 (c : Nat) : rR c 97 36 = some 120 := by simp [rR, kK_97]; decide +kernel
theorem rR_97_40 (c : Nat) : rR c 97 40 = some 121 := by simp [rR, kK_97]; decide +kernel
theorem rR_97_41 (c : Nat) : rR c 97 41 = some 122 := by simp [rR, kK_97]; decide +kernel
theorem rR_97_42 (c : Nat) : rR c 97 42 = some 123 := by simp [rR, kK_97]; decide +kernel
theorem rR_97_43 (c : Nat) : rR c 97 43 = some 124 := by simp [rR, kK_97]; decide +kernel
theorem rR_97_44 (c : Nat) : rR c 97 44 = some 125 := by simp [rR, kK_97]; decide +kernel
theorem rR_97_45 (c : Nat) : rR c 97 45 = some 126 := by simp [rR, kK_97]; decide +kernel
theorem rR_97_46 (c : Nat) : rR c 97 46 = some 127 := by simp [rR, kK_97]; decide +kernel
theorem rR_97_47 (c : Nat) : rR c 97 47 = some 128 := by simp [rR, kK_97]; decide +kernel
theorem rR_97_48 (c : Nat) : rR c 97 48 = some 129 := by simp [rR, kK_97]; decide +kernel
theorem rR_97_49 (c : Nat) : rR c 97 49 = some 130 := by simp [rR, kK_97]; decide +kernel
theorem rR_97_50 (c : Nat) : rR c 97 50 = some 131 := by simp [rR, kK_97]; decide +kernel
theorem rR_97_52 (c : Nat) : rR c 97 52 = some 132 := by simp [rR, kK_97]; decide +kernel
theorem rR_97_53 (c : Nat) : rR c 97 53 = some 133 := by simp [rR, kK_97]; decide +kernel
theorem rR_97_54 (c : Nat) : rR c 97 54 = some 134 := by simp [rR, kK_97]; decide +kernel
theorem rR_97_56 (c : Nat) : rR c 97 56 = some 135 := by simp [rR, kK_97]; decide +kernel
theorem rR_97_58 (c : Nat) : rR c 97 58 = some 136 := by simp [rR, kK_97]; decide +kernel
theorem rR_97_59 (c : Nat) : rR c 97 59 = some 137 := by simp [rR, kK_97]; decide +kernel
theorem rR_97_60 (c : Nat) : rR c 97 60 = some 138 := by simp [rR, kK_97]; decide +kernel
theorem rR_97_61 (c : Nat) : rR c 97 61 = some 139 := by simp [rR, kK_97]; decide +kernel
theorem rR_97_62 (c : Nat) : rR c 97 62 = some 140 := by simp [rR, kK_97]; decide +kernel
theorem rR_97_63 (c : Nat) : rR c 97 63 = some 141 := by simp [rR, kK_97]; decide +kernel
theorem rR_97_64 (c : Nat) : rR c 97 64 = some 142 := by simp [rR, kK_97]; decide +kernel
theorem rR_97_65 (c : Nat) : rR c 97 65 = some 143 := by simp [rR, kK_97]; decide +kernel
theorem rR_97_66 (c : Nat) : rR c 97 66 = some 144 := by simp [rR, kK_97]; decide +kernel
theorem rR_row (c : Nat) {m : Nat} (h : m < 16) : rR c 5 m = some (6 + 2 * m) := by simp [rR, h]
theorem rR_codes (c : Nat) {m : Nat} (h : m < 12) : rR c 41 m = some (42 + m) := by simp [rR, h]
theorem rR_sheets (c : Nat) {m : Nat} (h : m < 4) : rR c 88 m = some (89 + 2 * m) := by simp [rR, h]
theorem rR_code (c : Nat) : rR c 55 7 = some (42 + c) := by simp [rR]
theorem rR_steps (c : Nat) {m : Nat} (h : m < 16) : rR c (6 + 2 * m) 7 = some (6 + 2 * m + 1) := by
  have h1 := kK_mark m h
  unfold rR
  rw [if_neg (by omega), if_neg (by omega), if_neg (by omega), if_neg (by omega), if_pos h1, if_pos rfl]
theorem rR_items (c : Nat) {m : Nat} (h : m < 4) : rR c (89 + 2 * m) 1 = some (89 + 2 * m + 1) := by
  have h1 := kK_sheet m h
  unfold rR
  rw [if_neg (by omega), if_neg (by omega), if_neg (by omega), if_neg (by omega), if_neg (by rw [h1]; decide), if_pos h1, if_pos rfl]
def fRL : List (List Nat) := [[0, 0, 0, 2, 2, 2, 2, 2, 2, 2, 2, 0, 2, 2, 2], [2, 2, 2, 2], [0, 0, 0, 0, 1, 1, 0, 2, 0], [2, 0, 2], [0, 0, 2, 2, 2, 2, 2, 2, 2, 2, 2, 2], [0, 2, 2, 2, 2, 2, 0, 2], [2, 0, 2, 2, 0, 0, 0, 2, 0], [0, 2, 0], [2, 2], [2, 0, 0, 2, 2, 2, 2], [2, 2, 0, 0], [2, 2, 2, 2, 2, 2, 2, 2, 2], [2, 2, 0, 0, 0, 2, 2, 2, 2, 2, 2, 2, 2, 2, 0, 0, 2, 2, 2, 0, 0, 0, 0, 2, 2, 0, 0, 0, 0, 2, 2, 0, 2, 2, 2, 2, 2, 0, 0, 0, 2, 2, 2, 2, 2, 2, 2, 2, 2, 2, 2, 0, 2, 2, 2, 0, 2, 0, 2, 2, 2, 2, 2, 2, 2, 2, 2]]
/-- a field: 0 an int, 1 a boolean, 2 a reference -/
def fK (ci k : Nat) : Nat := (((fRL[ci]?).getD [])[k]?).getD 9
def fN (ci : Nat) : Nat := ((fRL[ci]?).getD []).length
theorem fK_0_0 : fK 0 0 = 0 := by decide +kernel
theorem fK_0_1 : fK 0 1 = 0 := by decide +kernel
theorem fK_0_2 : fK 0 2 = 0 := by decide +kernel
theorem fK_0_3 : fK 0 3 = 2 := by decide +kernel
theorem fK_0_4 : fK 0 4 = 2 := by decide +kernel
theorem fK_0_5 : fK 0 5 = 2 := by decide +kernel
theorem fK_0_6 : fK 0 6 = 2 := by decide +kernel
theorem fK_0_7 : fK 0 7 = 2 := by decide +kernel
theorem fK_0_8 : fK 0 8 = 2 := by decide +kernel
theorem fK_0_9 : fK 0 9 = 2 := by decide +kernel
theorem fK_0_10 : fK 0 10 = 2 := by decide +kernel
theorem fK_0_11 : fK 0 11 = 0 := by decide +kernel
theorem fK_0_12 : fK 0 12 = 2 := by decide +kernel
theorem fK_0_13 : fK 0 13 = 2 := by decide +kernel
theorem fK_0_14 : fK 0 14 = 2 := by decide +kernel
theorem fK_1_0 : fK 1 0 = 2 := by decide +kernel
theorem fK_1_1 : fK 1 1 = 2 := by decide +kernel
theorem fK_1_2 : fK 1 2 = 2 := by decide +kernel
theorem fK_1_3 : fK 1 3 = 2 := by decide +kernel
theorem fK_2_0 : fK 2 0 = 0 := by decide +kernel
theorem fK_2_1 : fK 2 1 = 0 := by decide +kernel
theorem fK_2_2 : fK 2 2 = 0 := by decide +kernel
theorem fK_2_3 : fK 2 3 = 0 := by decide +kernel
theorem fK_2_4 : fK 2 4 = 1 := by decide +kernel
theorem fK_2_5 : fK 2 5 = 1 := by decide +kernel
theorem fK_2_6 : fK 2 6 = 0 := by decide +kernel
theorem fK_2_7 : fK 2 7 = 2 := by decide +kernel
theorem fK_2_8 : fK 2 8 = 0 := by decide +kernel
theorem fK_3_0 : fK 3 0 = 2 := by decide +kernel
theorem fK_3_1 : fK 3 1 = 0 := by decide +kernel
theorem fK_3_2 : fK 3 2 = 2 := by decide +kernel
theorem fK_4_0 : fK 4 0 = 0 := by decide +kernel
theorem fK_4_1 : fK 4 1 = 0 := by decide +kernel
theorem fK_4_2 : fK 4 2 = 2 := by decide +kernel
theorem fK_4_3 : fK 4 3 = 2 := by decide +kernel
theorem fK_4_4 : fK 4 4 = 2 := by decide +kernel
theorem fK_4_5 : fK 4 5 = 2 := by decide +kernel
theorem fK_4_6 : fK 4 6 = 2 := by decide +kernel
theorem fK_4_7 : fK 4 7 = 2 := by decide +kernel
theorem fK_4_8 : fK 4 8 = 2 := by decide +kernel
theorem fK_4_9 : fK 4 9 = 2 := by decide +kernel
theorem fK_4_10 : fK 4 10 = 2 := by decide +kernel
theorem fK_4_11 : fK 4 11 = 2 := by decide +kernel
theorem fK_5_0 : fK 5 0 = 0 := by decide +kernel
theorem fK_5_1 : fK 5 1 = 2 := by decide +kernel
theorem fK_5_2 : fK 5 2 = 2 := by decide +kernel
theorem fK_5_3 : fK 5 3 = 2 := by decide +kernel
theorem fK_5_4 : fK 5 4 = 2 := by decide +kernel
theorem fK_5_5 : fK 5 5 = 2 := by decide +kernel
theorem fK_5_6 : fK 5 6 = 0 := by decide +kernel
theorem fK_5_7 : fK 5 7 = 2 := by decide +kernel
theorem fK_6_0 : fK 6 0 = 2 := by decide +kernel
theorem fK_6_1 : fK 6 1 = 0 := by decide +kernel
theorem fK_6_2 : fK 6 2 = 2 := by decide +kernel
theorem fK_6_3 : fK 6 3 = 2 := by decide +kernel
theorem fK_6_4 : fK 6 4 = 0 := by decide +kernel
theorem fK_6_5 : fK 6 5 = 0 := by decide +kernel
theorem fK_6_6 : fK 6 6 = 0 := by decide +kernel
theorem fK_6_7 : fK 6 7 = 2 := by decide +kernel
theorem fK_6_8 : fK 6 8 = 0 := by decide +kernel
theorem fK_7_0 : fK 7 0 = 0 := by decide +kernel
theorem fK_7_1 : fK 7 1 = 2 := by decide +kernel
theorem fK_7_2 : fK 7 2 = 0 := by decide +kernel
theorem fK_8_0 : fK 8 0 = 2 := by decide +kernel
theorem fK_8_1 : fK 8 1 = 2 := by decide +kernel
theorem fK_9_0 : fK 9 0 = 2 := by decide +kernel
theorem fK_9_1 : fK 9 1 = 0 := by decide +kernel
theorem fK_9_2 : fK 9 2 = 0 := by decide +kernel
theorem fK_9_3 : fK 9 3 = 2 := by decide +kernel
theorem fK_9_4 : fK 9 4 = 2 := by decide +kernel
theorem fK_9_5 : fK 9 5 = 2 := by decide +kernel
theorem fK_9_6 : fK 9 6 = 2 := by decide +kernel
theorem fK_10_0 : fK 10 0 = 2 := by decide +kernel
theorem fK_10_1 : fK 10 1 = 2 := by decide +kernel
theorem fK_10_2 : fK 10 2 = 0 := by decide +kernel
theorem fK_10_3 : fK 10 3 = 0 := by decide +kernel
theorem fK_11_0 : fK 11 0 = 2 := by decide +kernel
theorem fK_11_1 : fK 11 1 = 2 := by decide +kernel
theorem fK_11_2 : fK 11 2 = 2 := by decide +kernel
theorem fK_11_3 : fK 11 3 = 2 := by decide +kernel
theorem fK_11_4 : fK 11 4 = 2 := by decide +kernel
theorem fK_11_5 : fK 11 5 = 2 := by decide +kernel
theorem fK_11_6 : fK 11 6 = 2 := by decide +kernel
theorem fK_11_7 : fK 11 7 = 2 := by decide +kernel
theorem fK_11_8 : fK 11 8 = 2 := by decide +kernel
theorem fK_12_0 : fK 12 0 = 2 := by decide +kernel
theorem fK_12_1 : fK 12 1 = 2 := by decide +kernel
theorem fK_12_2 : fK 12 2 = 0 := by decide +kernel
theorem fK_12_3 : fK 12 3 = 0 := by decide +kernel
theorem fK_12_4 : fK 12 4 = 0 := by decide +kernel
theorem fK_12_5 : fK 12 5 = 2 := by decide +kernel
theorem fK_12_6 : fK 12 6 = 2 := by decide +kernel
theorem fK_12_7 : fK 12 7 = 2 := by decide +kernel
theorem fK_12_8 : fK 12 8 = 2 := by decide +kernel
theorem fK_12_9 : fK 12 9 = 2 := by decide +kernel
theorem fK_12_10 : fK 12 10 = 2 := by decide +kernel
theorem fK_12_11 : fK 12 11 = 2 := by decide +kernel
theorem fK_12_12 : fK 12 12 = 2 := by decide +kernel
theorem fK_12_13 : fK 12 13 = 2 := by decide +kernel
theorem fK_12_14 : fK 12 14 = 0 := by decide +kernel
theorem fK_12_15 : fK 12 15 = 0 := by decide +kernel
theorem fK_12_16 : fK 12 16 = 2 := by decide +kernel
theorem fK_12_17 : fK 12 17 = 2 := by decide +kernel
theorem fK_12_18 : fK 12 18 = 2 := by decide +kernel
theorem fK_12_19 : fK 12 19 = 0 := by decide +kernel
theorem fK_12_20 : fK 12 20 = 0 := by decide +kernel
theorem fK_12_21 : fK 12 21 = 0 := by decide +kernel
theorem fK_12_22 : fK 12 22 = 0 := by decide +kernel
theorem fK_12_23 : fK 12 23 = 2 := by decide +kernel
theorem fK_12_24 : fK 12 24 = 2 := by decide +kernel
theorem fK_12_25 : fK 12 25 = 0 := by decide +kernel
theorem fK_12_26 : fK 12 26 = 0 := by decide +kernel
theorem fK_12_27 : fK 12 27 = 0 := by decide +kernel
theorem fK_12_28 : fK 12 28 = 0 := by decide +kernel
theorem fK_12_29 : fK 12 29 = 2 := by decide +kernel
theorem fK_12_30 : fK 12 30 = 2 := by decide +kernel
theorem fK_12_31 : fK 12 31 = 0 := by decide +kernel
theorem fK_12_32 : fK 12 32 = 2 := by decide +kernel
theorem fK_12_33 : fK 12 33 = 2 := by decide +kernel
theorem fK_12_34 : fK 12 34 = 2 := by decide +kernel
theorem fK_12_35 : fK 12 35 = 2 := by decide +kernel
theorem fK_12_36 : fK 12 36 = 2 := by decide +kernel
theorem fK_12_37 : fK 12 37 = 0 := by decide +kernel
theorem fK_12_38 : fK 12 38 = 0 := by decide +kernel
theorem fK_12_39 : fK 12 39 = 0 := by decide +kernel
theorem fK_12_40 : fK 12 40 = 2 := by decide +kernel
theorem fK_12_41 : fK 12 41 = 2 := by decide +kernel
theorem fK_12_42 : fK 12 42 = 2 := by decide +kernel
theorem fK_12_43 : fK 12 43 = 2 := by decide +kernel
theorem fK_12_44 : fK 12 44 = 2 := by decide +kernel
theorem fK_12_45 : fK 12 45 = 2 := by decide +kernel
theorem fK_12_46 : fK 12 46 = 2 := by decide +kernel
theorem fK_12_47 : fK 12 47 = 2 := by decide +kernel
theorem fK_12_48 : fK 12 48 = 2 := by decide +kernel
theorem fK_12_49 : fK 12 49 = 2 := by decide +kernel
theorem fK_12_50 : fK 12 50 = 2 := by decide +kernel
theorem fK_12_51 : fK 12 51 = 0 := by decide +kernel
theorem fK_12_52 : fK 12 52 = 2 := by decide +kernel
theorem fK_12_53 : fK 12 53 = 2 := by decide +kernel
theorem fK_12_54 : fK 12 54 = 2 := by decide +kernel
theorem fK_12_55 : fK 12 55 = 0 := by decide +kernel
theorem fK_12_56 : fK 12 56 = 2 := by decide +kernel
theorem fK_12_57 : fK 12 57 = 0 := by decide +kernel
theorem fK_12_58 : fK 12 58 = 2 := by decide +kernel
theorem fK_12_59 : fK 12 59 = 2 := by decide +kernel
theorem fK_12_60 : fK 12 60 = 2 := by decide +kernel
theorem fK_12_61 : fK 12 61 = 2 := by decide +kernel
theorem fK_12_62 : fK 12 62 = 2 := by decide +kernel
theorem fK_12_63 : fK 12 63 = 2 := by decide +kernel
theorem fK_12_64 : fK 12 64 = 2 := by decide +kernel
theorem fK_12_65 : fK 12 65 = 2 := by decide +kernel
theorem fK_12_66 : fK 12 66 = 2 := by decide +kernel
/-- slots of the first n cells -/
def szL : Nat → Nat | 0 => 0 | n + 1 => szL n + (if (kK n).1 = 10 then fN (kK n).2 else (kK n).2)
