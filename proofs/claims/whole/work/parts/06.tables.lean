def tbK (k : Nat) : List Cond := match k with | 0 => k2_sels lw_privs | 1 => tables_1_1 | 2 => tables_1_2 | 3 => tables_1_3 | 4 => tables_1_4 | 5 => tables_1_5 | 6 => tables_1_6 | 7 => tables_1_7 | 8 => tables_1_8 | _ => []
/-- a word by its place: 1000 times the list and the place there -/
def wd (p : Nat) : Option Cond := (tbK (p / 1000))[p % 1000]?
theorem tbK_in {k : Nat} {w : Cond} (h : w ∈ tbK k) : w ∈ lw_tbl := by
  unfold lw_tbl tables_1
  simp only [List.mem_append]
  match k, h with
  | 0, h => exact Or.inl h
  | 1, h => exact Or.inr (Or.inl h)
  | 2, h => exact Or.inr (Or.inr (Or.inl h))
  | 3, h => exact Or.inr (Or.inr (Or.inr (Or.inl h)))
  | 4, h => exact Or.inr (Or.inr (Or.inr (Or.inr (Or.inl h))))
  | 5, h => exact Or.inr (Or.inr (Or.inr (Or.inr (Or.inr (Or.inl h)))))
  | 6, h => exact Or.inr (Or.inr (Or.inr (Or.inr (Or.inr (Or.inr (Or.inl h))))))
  | 7, h => exact Or.inr (Or.inr (Or.inr (Or.inr (Or.inr (Or.inr (Or.inr (Or.inl h)))))))
  | 8, h => exact Or.inr (Or.inr (Or.inr (Or.inr (Or.inr (Or.inr (Or.inr (Or.inr h)))))))
  | k + 9, h => cases h
theorem wd_in {p : Nat} {w : Cond} (h : wd p = some w) : w ∈ lw_tbl := tbK_in (List.mem_of_getElem? h)
/-! the methods: name, code, locals, result, class, cells that it makes; the place of its word among the tables', of instanceMethod or static, of selects, of initialized; 0 one of an object, 1 static; how many arguments -/
def mtL_0 : List (MethodName × ByteArray × Nat × Option FieldType × Nat × Nat) := [(yX0_init, cX0_init, 2, none, 0, 10), (yX0_addDoing, cX0_addDoing, 4, (some .int), 0, 0), (yX0_addReport, cX0_addReport, 5, (some .int), 0, 0), (yX0_addFinding, cX0_addFinding, 4, (some .int), 0, 0), (yX0_takeReportBack, cX0_takeReportBack, 2, (some .int), 0, 0), (yX0_isLet, cX0_isLet, 4, (some .boolean), 0, 0), (yX0_allLeft, cX0_allLeft, 3, (some .int), 0, 0), (yX0_worstOf, cX0_worstOf, 7, (some .int), 0, 0), (yX0_bestLook, cX0_bestLook, 8, (some .int), 0, 0), (yX0_allStanding, cX0_allStanding, 4, (some .int), 0, 0), (yX0_isLetByAll, cX0_isLetByAll, 4, (some .boolean), 0, 0), (yX0_isNoticed, cX0_isNoticed, 5, (some .boolean), 0, 0), (yX1_init, cX1_init, 4, none, 1, 1), (yX1_valueOf, cX1_valueOf, 8, (some .int), 1, 0), (yX1_allBreaches, cX1_allBreaches, 5, (some .int), 1, 0), (yX1_knownBreaches, cX1_knownBreaches, 10, (some .int), 1, 0), (yX1_allAstray, cX1_allAstray, 5, (some .int), 1, 0), (yX1_tellName, cX1_tellName, 3, none, 1, 0), (yX1_signedFar, cX1_signedFar, 4, (some .int), 1, 0), (yX1_isOnOtherSide, cX1_isOnOtherSide, 3, (some .boolean), 1, 0), (yX2_init, cX2_init, 1, none, 2, 1), (yX2_isUnder, cX2_isUnder, 4, (some .boolean), 2, 0), (yX2_sightOf, cX2_sightOf, 5, (some .int), 2, 0), (yX2_become, cX2_become, 5, none, 2, 0), (yX2_walkBy, cX2_walkBy, 2, (some .int), 2, 0), (yX2_cellIn, cX2_cellIn, 2, (some .int), 2, 0), (yX3_init, cX3_init, 3, none, 3, 33), (yX3_add, cX3_add, 5, (some .int), 3, 0), (yX3_has, cX3_has, 2, (some .boolean), 3, 0), (yX3_isOfArmy, cX3_isOfArmy, 2, (some .boolean), 3, 0), (yX3_allHeld, cX3_allHeld, 3, (some .int), 3, 0), (yX3_sightIn, cX3_sightIn, 3, (some .int), 3, 0), (yX3_canSee, cX3_canSee, 5, (some .boolean), 3, 0), (yX3_seenBy, cX3_seenBy, 3, (some .long), 3, 0), (yX3_seenBySide, cX3_seenBySide, 6, (some .long), 3, 0), (yX3_canHear, cX3_canHear, 5, (some .boolean), 3, 0), (yX4_init, cX4_init, 1, none, 4, 10), (yX4_addPermit, cX4_addPermit, 6, (some .int), 4, 0), (yX4_leastPermit, cX4_leastPermit, 7, (some .int), 4, 0), (yX4_addProtest, cX4_addProtest, 4, (some .int), 4, 0)]
def mtL_1 : List (MethodName × ByteArray × Nat × Option FieldType × Nat × Nat) := [(yX4_hasProtest, cX4_hasProtest, 2, (some .boolean), 4, 0), (yX4_answerProtest, cX4_answerProtest, 3, (some .int), 4, 0), (yX4_allLate, cX4_allLate, 5, (some .int), 4, 0), (yX4_leastBlamer, cX4_leastBlamer, 3, (some .int), 4, 0), (yX4_putListed, cX4_putListed, 7, (some .int), 4, 0), (yX5_init, cX5_init, 3, none, 5, 4), (yX5_addCell, cX5_addCell, 2, (some .int), 5, 0), (yX5_bestPosts, cX5_bestPosts, 7, (some .int), 5, 0), (yX5_seenFromAll, cX5_seenFromAll, 5, (some .long), 5, 0), (yX5_lookFromAll, cX5_lookFromAll, 3, none, 5, 0), (yX5_strengthOf, cX5_strengthOf, 4, (some .int), 5, 0), (yX5_canDraw, cX5_canDraw, 3, (some .boolean), 5, 0), (yX5_drawnAt, cX5_drawnAt, 7, (some .int), 5, 0), (yX5_isGunHere, cX5_isGunHere, 2, (some .boolean), 5, 0), (yX5_tellGuns, cX5_tellGuns, 3, none, 5, 0), (yX5_openSets, cX5_openSets, 6, none, 5, 0), (yX5_leadOf, cX5_leadOf, 5, (some .int), 5, 0), (yX5_nextDrawn, cX5_nextDrawn, 3, (some .int), 5, 0), (yX6_init, cX6_init, 3, none, 6, 2), (yX6_isName, cX6_isName, 1, (some .boolean), 6, 0), (yX6_read, cX6_read, 4, (some .int), 6, 0), (yX6_splitTape, cX6_splitTape, 4, none, 6, 0), (yX6_endOf, cX6_endOf, 3, (some .int), 6, 0), (yX6_tokenOf, cX6_tokenOf, 6, (some .int), 6, 0), (yX6_wordOf, cX6_wordOf, 3, (some .int), 6, 0), (yX6_isSpelt, cX6_isSpelt, 5, (some .boolean), 6, 0), (yX6_numberAt, cX6_numberAt, 4, (some .int), 6, 0), (yX6_isLetter, cX6_isLetter, 1, (some .boolean), 6, 0), (yX6_isDigit, cX6_isDigit, 1, (some .boolean), 6, 0), (yX6_readPart, cX6_readPart, 3, none, 6, 0), (yX6_readOr, cX6_readOr, 3, none, 6, 0), (yX6_readAnd, cX6_readAnd, 3, none, 6, 0), (yX6_readNot, cX6_readNot, 2, none, 6, 0), (yX6_readComparison, cX6_readComparison, 3, none, 6, 0), (yX6_readSum, cX6_readSum, 4, none, 6, 0), (yX6_readTerm, cX6_readTerm, 3, none, 6, 0), (yX6_readOne, cX6_readOne, 3, none, 6, 0), (yX6_isNext, cX6_isNext, 2, (some .boolean), 6, 0), (yX6_expect, cX6_expect, 2, none, 6, 0), (yX6_skipToken, cX6_skipToken, 1, none, 6, 0)]
def mtL_2 : List (MethodName × ByteArray × Nat × Option FieldType × Nat × Nat) := [(yX6_fail, cX6_fail, 1, none, 6, 0), (yX6_write, cX6_write, 2, none, 6, 0), (yX7_init, cX7_init, 1, none, 7, 1), (yX7_isMissing, cX7_isMissing, 1, (some .boolean), 7, 0), (yX7_has, cX7_has, 2, (some .boolean), 7, 0), (yX7_hasRun, cX7_hasRun, 3, (some .boolean), 7, 0), (yX7_become, cX7_become, 3, (some .int), 7, 0), (yX7_put, cX7_put, 3, (some .int), 7, 0), (yX8_init, cX8_init, 3, none, 8, 0), (yX8_shotsBehind, cX8_shotsBehind, 7, (some .int), 8, 0), (yX8_leastCalm, cX8_leastCalm, 11, (some .int), 8, 0), (yX8_calledForth, cX8_calledForth, 8, (some .int), 8, 0), (yX8_heardBy, cX8_heardBy, 7, (some .int), 8, 0), (yX9_init, cX9_init, 2, none, 9, 19), (yX9_has, cX9_has, 2, (some .boolean), 9, 0), (yX9_feedTape, cX9_feedTape, 5, (some .int), 9, 0), (yX9_readTape, cX9_readTape, 3, (some .int), 9, 0), (yX9_valueOf, cX9_valueOf, 8, (some .int), 9, 0), (yX9_ofOne, cX9_ofOne, 2, (some .int), 9, 0), (yX9_ofTwo, cX9_ofTwo, 3, (some .int), 9, 0), (yX10_init, cX10_init, 1, none, 10, 2), (yX10_sideOf, cX10_sideOf, 2, (some .int), 10, 0), (yX10_farOf, cX10_farOf, 3, (some .int), 10, 0), (yX10_isStrip, cX10_isStrip, 2, (some .boolean), 10, 0), (yX10_sightFrom, cX10_sightFrom, 4, (some .int), 10, 0), (yX10_canSee, cX10_canSee, 12, (some .boolean), 10, 0), (yX10_seenFrom, cX10_seenFrom, 6, (some .long), 10, 0), (yX11_init, cX11_init, 1, none, 11, 96), (yX11_height, cX11_height, 4, (some .int), 11, 0), (yX11_line, cX11_line, 4, (some .int), 11, 0), (yX11_set, cX11_set, 4, (some .int), 11, 0), (yX11_cellTold, cX11_cellTold, 3, (some .int), 11, 0), (yX11_mark, cX11_mark, 5, (some .int), 11, 0), (yX11_walk, cX11_walk, 4, (some .int), 11, 0), (yX11_gone, cX11_gone, 5, (some .int), 11, 0), (yX11_markTold, cX11_markTold, 4, (some .int), 11, 0), (yX11_at, cX11_at, 3, (some .int), 11, 0), (yX11_sight, cX11_sight, 3, (some .int), 11, 0), (yX11_sees, cX11_sees, 3, (some .long), 11, 0), (yX11_view, cX11_view, 3, (some .long), 11, 0)]
def mtL_3 : List (MethodName × ByteArray × Nat × Option FieldType × Nat × Nat) := [(yX11_feed, cX11_feed, 4, (some .int), 11, 0), (yX11_text, cX11_text, 1, (some .int), 11, 0), (yX11_force, cX11_force, 4, (some .int), 11, 0), (yX11_says, cX11_says, 5, (some .long), 11, 0), (yX11_breaches, cX11_breaches, 3, (some .int), 11, 0), (yX11_astray, cX11_astray, 2, (some .int), 11, 0), (yX11_permit, cX11_permit, 6, (some .int), 11, 0), (yX11_may, cX11_may, 4, (some .int), 11, 0), (yX11_doing, cX11_doing, 4, (some .int), 11, 0), (yX11_report, cX11_report, 5, (some .int), 11, 0), (yX11_takeBack, cX11_takeBack, 2, (some .int), 11, 0), (yX11_lets, cX11_lets, 3, (some .int), 11, 0), (yX11_left, cX11_left, 1, (some .int), 11, 0), (yX11_worst, cX11_worst, 4, (some .int), 11, 0), (yX11_look, cX11_look, 2, (some .int), 11, 0), (yX11_finding, cX11_finding, 4, (some .int), 11, 0), (yX11_standing, cX11_standing, 1, (some .int), 11, 0), (yX11_hold, cX11_hold, 5, (some .int), 11, 0), (yX11_shots, cX11_shots, 4, (some .int), 11, 0), (yX11_calm, cX11_calm, 5, (some .int), 11, 0), (yX11_list, cX11_list, 2, (some .int), 11, 0), (yX11_cover, cX11_cover, 5, (some .int), 11, 0), (yX11_drawBack, cX11_drawBack, 4, (some .int), 11, 0), (yX11_strength, cX11_strength, 2, (some .int), 11, 0), (yX11_protest, cX11_protest, 4, (some .int), 11, 0), (yX11_answer, cX11_answer, 3, (some .int), 11, 0), (yX11_late, cX11_late, 2, (some .int), 11, 0), (yX11_blame, cX11_blame, 2, (some .int), 11, 0), (yX11_listed, cX11_listed, 4, (some .int), 11, 0), (yX11_alone, cX11_alone, 2, (some .long), 11, 0), (yX11_count, cX11_count, 2, (some .int), 11, 0), (yX11_sheet, cX11_sheet, 4, (some .int), 11, 0), (yX11_cell, cX11_cell, 5, (some .int), 11, 0), (yX11_copy, cX11_copy, 8, (some .int), 11, 0), (yX11_heights, cX11_heights, 7, (some .int), 11, 0), (yX11_taken, cX11_taken, 4, (some .int), 11, 0), (yX11_tellHeights, cX11_tellHeights, 9, (some .int), 11, 0), (yX11_isWithin, cX11_isWithin, 3, (some .boolean), 11, 0), (yX11_isCell, cX11_isCell, 1, (some .boolean), 11, 0), (yX11_isHour, cX11_isHour, 1, (some .boolean), 11, 0)]
def mtL_4 : List (MethodName × ByteArray × Nat × Option FieldType × Nat × Nat) := [(yX11_isSide, cX11_isSide, 1, (some .boolean), 11, 0), (yX11_isArmy, cX11_isArmy, 1, (some .boolean), 11, 0), (yX11_isBit, cX11_isBit, 1, (some .boolean), 11, 0), (yX11_isKind, cX11_isKind, 1, (some .boolean), 11, 0), (yX11_isSheet, cX11_isSheet, 1, (some .boolean), 11, 0), (yX11_isSetOf, cX11_isSetOf, 2, (some .boolean), 11, 0), (yX11_isIn, cX11_isIn, 2, (some .boolean), 11, 0), (yX11_bit, cX11_bit, 1, (some .int), 11, 0), (yX11_apartOf, cX11_apartOf, 2, (some .int), 11, 0), (yX11_isNight, cX11_isNight, 2, (some .boolean), 11, 0), (yX12_in, cX12_in, 4, (some .boolean), 12, 0), (yX12_init, cX12_init, 2, none, 12, 47), (yX12_isCell, cX12_isCell, 2, (some .boolean), 12, 0), (yX12_isHour, cX12_isHour, 2, (some .boolean), 12, 0), (yX12_height, cX12_height, 4, (some .int), 12, 0), (yX12_line, cX12_line, 4, (some .int), 12, 0), (yX12_set, cX12_set, 4, (some .int), 12, 0), (yX12_sideAt, cX12_sideAt, 2, (some .int), 12, 0), (yX12_farAt, cX12_farAt, 2, (some .int), 12, 0), (yX12_cellTold, cX12_cellTold, 3, (some .int), 12, 0), (yX12_abs, cX12_abs, 2, (some .int), 12, 0), (yX12_apart, cX12_apart, 5, (some .int), 12, 0), (yX12_isNight, cX12_isNight, 2, (some .boolean), 12, 0), (yX12_isMark, cX12_isMark, 2, (some .boolean), 12, 0), (yX12_mark, cX12_mark, 5, (some .int), 12, 0), (yX12_isUnder, cX12_isUnder, 3, (some .boolean), 12, 0), (yX12_walk, cX12_walk, 3, (some .int), 12, 0), (yX12_gone, cX12_gone, 4, (some .int), 12, 0), (yX12_earOf, cX12_earOf, 2, (some .int), 12, 0), (yX12_markTold, cX12_markTold, 3, (some .int), 12, 0), (yX12_cellOf, cX12_cellOf, 3, (some .int), 12, 0), (yX12_at, cX12_at, 3, (some .int), 12, 0), (yX12_sightOf, cX12_sightOf, 6, (some .int), 12, 0), (yX12_sight, cX12_sight, 3, (some .int), 12, 0), (yX12_isClear, cX12_isClear, 8, (some .boolean), 12, 0), (yX12_seenFrom, cX12_seenFrom, 8, (some .long), 12, 0), (yX12_seenBy, cX12_seenBy, 3, (some .long), 12, 0), (yX12_sees, cX12_sees, 3, (some .long), 12, 0), (yX12_viewOf, cX12_viewOf, 6, (some .long), 12, 0), (yX12_view, cX12_view, 3, (some .long), 12, 0)]
def mtL_5 : List (MethodName × ByteArray × Nat × Option FieldType × Nat × Nat) := [(yX12_ruleZero, cX12_ruleZero, 1, none, 12, 0), (yX12_feed, cX12_feed, 5, (some .int), 12, 0), (yX12_isLetter, cX12_isLetter, 2, (some .boolean), 12, 0), (yX12_isDigit, cX12_isDigit, 2, (some .boolean), 12, 0), (yX12_isWord, cX12_isWord, 6, (some .boolean), 12, 0), (yX12_wordToken, cX12_wordToken, 1, none, 12, 0), (yX12_next, cX12_next, 2, none, 12, 0), (yX12_isKey, cX12_isKey, 2, (some .boolean), 12, 0), (yX12_isSign, cX12_isSign, 2, (some .boolean), 12, 0), (yX12_put, cX12_put, 2, none, 12, 0), (yX12_rank, cX12_rank, 2, (some .int), 12, 0), (yX12_settle, cX12_settle, 2, none, 12, 0), (yX12_hold, cX12_hold, 2, none, 12, 0), (yX12_ahead, cX12_ahead, 2, (some .boolean), 12, 0), (yX12_signOf, cX12_signOf, 1, (some .int), 12, 0), (yX12_part, cX12_part, 4, (some .boolean), 12, 0), (yX12_isText, cX12_isText, 2, (some .boolean), 12, 0), (yX12_text, cX12_text, 3, (some .int), 12, 0), (yX12_force, cX12_force, 4, (some .int), 12, 0), (yX12_both, cX12_both, 4, (some .int), 12, 0), (yX12_work, cX12_work, 7, (some .int), 12, 0), (yX12_ask, cX12_ask, 6, (some .int), 12, 0), (yX12_says, cX12_says, 5, (some .long), 12, 0), (yX12_breaches, cX12_breaches, 7, (some .int), 12, 0), (yX12_astray, cX12_astray, 4, (some .int), 12, 0), (yX12_permit, cX12_permit, 6, (some .int), 12, 0), (yX12_may, cX12_may, 5, (some .int), 12, 0), (yX12_isDoing, cX12_isDoing, 2, (some .boolean), 12, 0), (yX12_doing, cX12_doing, 4, (some .int), 12, 0), (yX12_loud, cX12_loud, 2, (some .int), 12, 0), (yX12_knows, cX12_knows, 5, (some .boolean), 12, 0), (yX12_report, cX12_report, 5, (some .int), 12, 0), (yX12_takeBack, cX12_takeBack, 4, (some .int), 12, 0), (yX12_isLet, cX12_isLet, 3, (some .boolean), 12, 0), (yX12_lets, cX12_lets, 3, (some .int), 12, 0), (yX12_left, cX12_left, 5, (some .int), 12, 0), (yX12_worstOf, cX12_worstOf, 8, (some .int), 12, 0), (yX12_worst, cX12_worst, 4, (some .int), 12, 0), (yX12_look, cX12_look, 7, (some .int), 12, 0), (yX12_finding, cX12_finding, 4, (some .int), 12, 0)]
def mtL_6 : List (MethodName × ByteArray × Nat × Option FieldType × Nat × Nat) := [(yX12_standing, cX12_standing, 5, (some .int), 12, 0), (yX12_hold_, cX12_hold_, 4, (some .int), 12, 0), (yX12_shooting, cX12_shooting, 11, (some .int), 12, 0), (yX12_canShoot, cX12_canShoot, 3, (some .boolean), 12, 0), (yX12_shots, cX12_shots, 4, (some .int), 12, 0), (yX12_ones, cX12_ones, 4, (some .int), 12, 0), (yX12_calm, cX12_calm, 7, (some .int), 12, 0), (yX12_list, cX12_list, 2, (some .int), 12, 0), (yX12_bitsOf, cX12_bitsOf, 6, (some .int), 12, 0), (yX12_coveredBy, cX12_coveredBy, 5, (some .int), 12, 0), (yX12_cover, cX12_cover, 6, (some .int), 12, 0), (yX12_strengthOf, cX12_strengthOf, 5, (some .int), 12, 0), (yX12_strength, cX12_strength, 2, (some .int), 12, 0), (yX12_marksOf, cX12_marksOf, 4, (some .int), 12, 0), (yX12_drawBack, cX12_drawBack, 9, (some .int), 12, 0), (yX12_protest, cX12_protest, 4, (some .int), 12, 0), (yX12_answer, cX12_answer, 3, (some .int), 12, 0), (yX12_late, cX12_late, 4, (some .int), 12, 0), (yX12_blame, cX12_blame, 3, (some .int), 12, 0), (yX12_listed, cX12_listed, 5, (some .int), 12, 0), (yX12_alone, cX12_alone, 2, (some .long), 12, 0), (yX12_count, cX12_count, 2, (some .int), 12, 0), (yX12_isSheet, cX12_isSheet, 2, (some .boolean), 12, 0), (yX12_sheet, cX12_sheet, 5, (some .int), 12, 0), (yX12_cell, cX12_cell, 4, (some .int), 12, 0), (yX12_copy, cX12_copy, 7, (some .int), 12, 0), (yX12_heights, cX12_heights, 8, (some .int), 12, 0), (yX12_taken, cX12_taken, 3, (some .int), 12, 0), (yJ6_bitCount_0f7a4, cJ6_bitCount_0f7a4, 1, (some .int), 14, 0), (yJ13_bitCount_95d88, cJ13_bitCount_95d88, 2, (some .int), 15, 0), (yJ9_abs_0f7a4, cJ9_abs_0f7a4, 1, (some .int), 16, 0), (yJ9_max_7cf53, cJ9_max_7cf53, 2, (some .int), 16, 0), (yJ9_min_7cf53, cJ9_min_7cf53, 2, (some .int), 16, 0), (yJ0_length_8abf5, cJ0_length_8abf5, 1, (some .int), 18, 0), (yJ0_charAt_5068e, cJ0_charAt_5068e, 2, (some .char), 18, 0), (yJ0_coder_7d493, cJ0_coder_7d493, 1, (some .byte), 18, 0), (yJ0_isLatin1_aae02, cJ0_isLatin1_aae02, 1, (some .boolean), 18, 0), (yJ0_checkIndex_df160, cJ0_checkIndex_df160, 2, none, 18, 0), (yJ1_charAt_3b067, cJ1_charAt_3b067, 2, (some .char), 19, 0), (yJ2_getChar_3b067, cJ2_getChar_3b067, 2, (some .char), 20, 0)]
def mtL_7 : List (MethodName × ByteArray × Nat × Option FieldType × Nat × Nat) := [(yJ2_length_9d52b, cJ2_length_9d52b, 1, (some .int), 20, 0), (yJ2_charAt_3b067, cJ2_charAt_3b067, 2, (some .char), 20, 0), (yJ2_checkIndex_2214a, cJ2_checkIndex_2214a, 2, none, 20, 0), (yJ7_fill_53178, cJ7_fill_53178, 4, none, 17, 0), (yJ3_checkIndex_8e157, cJ3_checkIndex_8e157, 3, (some .int), 21, 0), (yL_law, cL_law, 4, (some .boolean), 13, 0)]
def mtL : List (MethodName × ByteArray × Nat × Option FieldType × Nat × Nat) := mtL_0 ++ (mtL_1 ++ (mtL_2 ++ (mtL_3 ++ (mtL_4 ++ (mtL_5 ++ (mtL_6 ++ (mtL_7)))))))
def mpL_0 : List (Nat × Nat × Nat × Nat × Nat × Nat) := [(2153, 2152, 0, 1014, 0, 1), (4126, 4124, 4125, 1014, 0, 3), (4134, 4132, 4133, 1014, 0, 4), (4220, 4218, 4219, 1014, 0, 3), (4142, 4140, 4141, 1014, 0, 1), (4157, 4155, 4156, 1014, 0, 2), (4185, 4183, 4184, 1014, 0, 0), (4199, 4197, 4198, 1014, 0, 4), (4208, 4206, 4207, 1014, 0, 2), (4228, 4226, 4227, 1014, 0, 0), (4189, 4188, 23, 1014, 0, 2), (4161, 4160, 22, 1014, 0, 4), (2134, 2133, 0, 1013, 0, 3), (4044, 4042, 4043, 1013, 0, 4), (4084, 4082, 4083, 1013, 0, 1), (4089, 4087, 4088, 1013, 0, 2), (4102, 4100, 4101, 1013, 0, 1), (4049, 4048, 19, 1013, 0, 2), (4053, 4052, 20, 1013, 0, 2), (4058, 4057, 21, 1013, 0, 2), (1069, 1068, 0, 1005, 0, 0), (3173, 3172, 0, 1005, 1, 2), (3220, 3219, 0, 1005, 1, 3), (3158, 3156, 3157, 1005, 0, 4), (3179, 3177, 3178, 1005, 0, 1), (3201, 3199, 3200, 1005, 0, 1), (1062, 1061, 0, 1004, 0, 1), (3154, 3152, 3153, 1004, 0, 4), (3169, 3167, 3168, 1004, 0, 1), (5000, 4238, 4239, 1004, 0, 1), (5006, 5004, 5005, 1004, 0, 0), (3209, 3207, 3208, 1004, 0, 2), (4176, 4174, 4175, 1004, 0, 3), (3232, 3230, 3231, 1004, 0, 2), (4012, 4010, 4011, 1004, 0, 2), (4167, 4165, 4166, 1004, 0, 4), (3015, 3014, 0, 1017, 0, 0), (4110, 4108, 4109, 1017, 0, 5), (4118, 4116, 4117, 1017, 0, 3), (5127, 5125, 5126, 1017, 0, 3), (5135, 5133, 5134, 1017, 0, 1), (5140, 5138, 5139, 1017, 0, 2), (5148, 5146, 5147, 1017, 0, 1), (5156, 5154, 5155, 1017, 0, 1), (5164, 5162, 5163, 1017, 0, 3), (2222, 2221, 0, 1016, 0, 2), (5044, 5042, 5043, 1016, 0, 1), (5052, 5050, 5051, 1016, 0, 2), (5063, 5061, 5062, 1016, 0, 1), (5056, 5055, 26, 1016, 0, 1), (5103, 5101, 5102, 1016, 0, 1), (5080, 5078, 5079, 1016, 0, 1), (5091, 5089, 5090, 1016, 0, 3), (5085, 5084, 27, 1016, 0, 1), (5095, 5094, 28, 1016, 0, 1), (5099, 5098, 29, 1016, 0, 1), (5107, 5106, 30, 1016, 0, 1), (5112, 5111, 31, 1016, 0, 1), (1151, 1150, 0, 1007, 0, 2), (2099, 2098, 0, 1007, 1, 1), (2000, 1238, 1239, 1007, 0, 3), (2005, 2004, 0, 1007, 0, 0), (2009, 2008, 1, 1007, 0, 1), (2019, 2018, 2, 1007, 0, 2), (2023, 2022, 3, 1007, 0, 2), (2028, 2027, 4, 1007, 0, 3), (2092, 2091, 17, 1007, 0, 1), (2012, 2011, 0, 1007, 1, 1), (2015, 2014, 0, 1007, 1, 1), (2044, 2043, 5, 1007, 0, 2), (2064, 2063, 10, 1007, 0, 1), (2068, 2067, 11, 1007, 0, 1), (2072, 2071, 12, 1007, 0, 1), (2076, 2075, 13, 1007, 0, 1), (2080, 2079, 14, 1007, 0, 1), (2084, 2083, 15, 1007, 0, 1), (2088, 2087, 16, 1007, 0, 1), (2052, 2051, 7, 1007, 0, 1), (2048, 2047, 6, 1007, 0, 1), (2056, 2055, 8, 1007, 0, 0)]
def mpL_1 : List (Nat × Nat × Nat × Nat × Nat × Nat) := [(2060, 2059, 9, 1007, 0, 0), (2096, 2095, 18, 1007, 0, 1), (3063, 3062, 0, 1018, 0, 0), (5195, 5193, 5194, 1018, 0, 0), (5199, 5197, 5198, 1018, 0, 1), (5212, 5210, 5211, 1018, 0, 2), (5186, 5184, 5185, 1018, 0, 2), (5204, 5202, 5203, 1018, 0, 2), (2209, 2208, 0, 1015, 0, 2), (5011, 5009, 5010, 1015, 0, 4), (5033, 5031, 5032, 1015, 0, 4), (5015, 5014, 24, 1015, 0, 3), (5021, 5020, 25, 1015, 0, 3), (1143, 1142, 0, 1006, 0, 0), (4035, 4033, 4034, 1006, 0, 1), (4021, 4019, 4020, 1006, 0, 2), (1236, 1234, 1235, 1006, 0, 0), (4068, 4066, 4067, 1006, 0, 3), (4072, 4071, 0, 1006, 1, 2), (4076, 4075, 0, 1006, 1, 3), (1035, 1034, 0, 1002, 0, 0), (3128, 3126, 3127, 1002, 0, 1), (3132, 3130, 3131, 1002, 0, 1), (3136, 3134, 3135, 1002, 0, 1), (3214, 3212, 3213, 1002, 0, 3), (4001, 3239, 4000, 1002, 0, 3), (3237, 3235, 3236, 1002, 0, 2), (1027, 1026, 0, 1001, 0, 0), (3108, 3106, 3107, 1001, 0, 2), (3116, 3114, 3115, 1001, 0, 2), (3120, 3118, 3119, 1001, 0, 2), (3124, 3122, 3123, 1001, 0, 2), (3144, 3142, 3143, 1001, 0, 4), (3165, 3163, 3164, 1001, 0, 2), (3183, 3181, 3182, 1001, 0, 2), (3190, 3188, 3189, 1001, 0, 2), (3194, 3192, 3193, 1001, 0, 2), (3205, 3203, 3204, 1001, 0, 2), (3227, 3225, 3226, 1001, 0, 2), (4008, 4006, 4007, 1001, 0, 2), (4017, 4015, 4016, 1001, 0, 2), (4026, 4024, 4025, 1001, 0, 0), (4031, 4029, 4030, 1001, 0, 2), (4040, 4038, 4039, 1001, 0, 4), (4080, 4078, 4079, 1001, 0, 2), (4098, 4096, 4097, 1001, 0, 1), (4106, 4104, 4105, 1001, 0, 5), (4114, 4112, 4113, 1001, 0, 3), (4122, 4120, 4121, 1001, 0, 3), (4130, 4128, 4129, 1001, 0, 4), (4138, 4136, 4137, 1001, 0, 1), (4153, 4151, 4152, 1001, 0, 2), (4181, 4179, 4180, 1001, 0, 0), (4195, 4193, 4194, 1001, 0, 3), (4204, 4202, 4203, 1001, 0, 1), (4213, 4211, 4212, 1001, 0, 3), (4224, 4222, 4223, 1001, 0, 0), (4232, 4230, 4231, 1001, 0, 2), (4236, 4234, 4235, 1001, 0, 3), (5028, 5026, 5027, 1001, 0, 4), (5040, 5038, 5039, 1001, 0, 1), (5048, 5046, 5047, 1001, 0, 3), (5076, 5074, 5075, 1001, 0, 3), (5117, 5115, 5116, 1001, 0, 1), (5122, 5120, 5121, 1001, 0, 3), (5131, 5129, 5130, 1001, 0, 2), (5144, 5142, 5143, 1001, 0, 1), (5152, 5150, 5151, 1001, 0, 1), (5160, 5158, 5159, 1001, 0, 3), (5170, 5168, 5169, 1001, 0, 1), (5175, 5173, 5174, 1001, 0, 1), (5179, 5177, 5178, 1001, 0, 3), (5191, 5189, 5190, 1001, 0, 3), (5208, 5206, 5207, 1001, 0, 5), (5219, 5217, 5218, 1001, 0, 5), (5227, 5225, 5226, 1001, 0, 2), (5223, 5222, 32, 1001, 0, 4), (2102, 2101, 0, 1001, 1, 3), (3111, 3110, 0, 1001, 1, 1), (3197, 3196, 0, 1001, 1, 1)]
def mpL_2 : List (Nat × Nat × Nat × Nat × Nat × Nat) := [(3150, 3149, 0, 1001, 1, 1), (4061, 4060, 0, 1001, 1, 1), (3186, 3185, 0, 1001, 1, 1), (3147, 3146, 0, 1001, 1, 1), (5182, 5181, 0, 1001, 1, 1), (4216, 4215, 0, 1001, 1, 2), (4094, 4093, 0, 1001, 1, 2), (3140, 3139, 0, 1001, 1, 1), (4170, 4169, 0, 1001, 1, 2), (3217, 3216, 0, 1001, 1, 1), (6211, 6210, 35, 1019, 0, 3), (5232, 5231, 0, 1019, 0, 0), (6207, 6206, 34, 1019, 0, 1), (7027, 7026, 41, 1019, 0, 1), (6203, 6201, 6202, 1019, 0, 2), (6215, 6213, 6214, 1019, 0, 2), (6219, 6217, 6218, 1019, 0, 2), (6227, 6226, 36, 1019, 0, 1), (6231, 6230, 37, 1019, 0, 1), (6223, 6221, 6222, 1019, 0, 2), (7063, 7062, 48, 1019, 0, 1), (7059, 7058, 47, 1019, 0, 2), (7043, 7042, 44, 1019, 0, 1), (7003, 7002, 38, 1019, 0, 1), (6235, 6233, 6234, 1019, 0, 4), (7007, 7006, 39, 1019, 0, 2), (6239, 6237, 6238, 1019, 0, 2), (7011, 7009, 7010, 1019, 0, 2), (7019, 7018, 40, 1019, 0, 1), (7015, 7013, 7014, 1019, 0, 2), (7031, 7030, 42, 1019, 0, 2), (7023, 7021, 7022, 1019, 0, 2), (7039, 7038, 43, 1019, 0, 3), (7035, 7033, 7034, 1019, 0, 2), (7067, 7066, 49, 1019, 0, 2), (7055, 7054, 46, 1019, 0, 3), (7051, 7050, 45, 1019, 0, 2), (7047, 7045, 7046, 1019, 0, 2), (7076, 7075, 50, 1019, 0, 2), (7072, 7070, 7071, 1019, 0, 2), (5237, 5236, 33, 1019, 0, 0), (7080, 7078, 7079, 1019, 0, 2), (7096, 7095, 53, 1019, 0, 1), (7120, 7119, 56, 1019, 0, 1), (7105, 7104, 55, 1019, 0, 1), (7100, 7099, 54, 1019, 0, 0), (7092, 7091, 52, 1019, 0, 0), (7124, 7123, 57, 1019, 0, 1), (7136, 7135, 60, 1019, 0, 1), (7144, 7143, 62, 1019, 0, 1), (7152, 7151, 64, 1019, 0, 1), (7148, 7147, 63, 1019, 0, 1), (7140, 7139, 61, 1019, 0, 1), (7132, 7131, 59, 1019, 0, 1), (7156, 7155, 65, 1019, 0, 0), (7128, 7127, 58, 1019, 0, 0), (7088, 7087, 51, 1019, 0, 0), (7084, 7082, 7083, 1019, 0, 0), (7160, 7158, 7159, 1019, 0, 2), (7176, 7175, 68, 1019, 0, 3), (7172, 7171, 67, 1019, 0, 2), (7168, 7167, 66, 1019, 0, 4), (7164, 7162, 7163, 1019, 0, 4), (7180, 7178, 7179, 1019, 0, 2), (7184, 7182, 7183, 1019, 0, 1), (7188, 7186, 7187, 1019, 0, 5), (7192, 7190, 7191, 1019, 0, 3), (7212, 7211, 69, 1019, 0, 1), (7196, 7194, 7195, 1019, 0, 3), (7224, 7223, 72, 1019, 0, 1), (7220, 7219, 71, 1019, 0, 4), (7200, 7198, 7199, 1019, 0, 4), (7204, 7202, 7203, 1019, 0, 1), (7216, 7215, 70, 1019, 0, 2), (7208, 7206, 7207, 1019, 0, 2), (7228, 7226, 7227, 1019, 0, 0), (7237, 7236, 73, 1019, 0, 4), (7232, 7230, 7231, 1019, 0, 3), (8001, 7239, 8000, 1019, 0, 1), (8005, 8003, 8004, 1019, 0, 3)]
def mpL_3 : List (Nat × Nat × Nat × Nat × Nat × Nat) := [(8009, 8007, 8008, 1019, 0, 0), (8013, 8011, 8012, 1019, 0, 2), (8025, 8024, 75, 1019, 0, 4), (8021, 8020, 74, 1019, 0, 2), (8017, 8015, 8016, 1019, 0, 3), (8033, 8032, 76, 1019, 0, 1), (8029, 8027, 8028, 1019, 0, 4), (8037, 8035, 8036, 1019, 0, 1), (8049, 8048, 78, 1019, 0, 1), (8045, 8044, 77, 1019, 0, 1), (8041, 8039, 8040, 1019, 0, 3), (8057, 8056, 79, 1019, 0, 2), (8053, 8051, 8052, 1019, 0, 1), (8065, 8064, 80, 1019, 0, 1), (8061, 8059, 8060, 1019, 0, 3), (8069, 8067, 8068, 1019, 0, 3), (8073, 8071, 8072, 1019, 0, 2), (8077, 8075, 8076, 1019, 0, 1), (8081, 8079, 8080, 1019, 0, 1), (8085, 8083, 8084, 1019, 0, 3), (8090, 8088, 8089, 1019, 0, 1), (8094, 8092, 8093, 1019, 0, 1), (8102, 8101, 81, 1019, 0, 1), (8098, 8096, 8097, 1019, 0, 3), (8106, 8104, 8105, 1019, 0, 3), (8110, 8108, 8109, 1019, 0, 5), (8114, 8112, 8113, 1019, 0, 5), (8119, 8117, 8118, 1019, 0, 2), (4146, 4145, 0, 1020, 1, 1), (5067, 5066, 0, 1021, 1, 1), (4004, 4003, 0, 1009, 1, 1), (3223, 3222, 0, 1009, 1, 2), (1194, 1193, 0, 1009, 1, 2), (1185, 1183, 1184, 1008, 0, 0), (1198, 1196, 1197, 1008, 0, 1), (1189, 1187, 1188, 1008, 0, 0), (1202, 1200, 1201, 1008, 0, 0), (1208, 1207, 0, 1008, 1, 2), (1205, 1204, 0, 1010, 1, 2), (1226, 1225, 0, 1012, 1, 2), (1222, 1221, 0, 1012, 1, 1), (1216, 1215, 0, 1012, 1, 2), (1219, 1218, 0, 1012, 1, 2), (1039, 1038, 0, 1003, 1, 2), (1213, 1212, 0, 1011, 1, 3), (0, 0, 0, 1000, 1, 1)]
def mpL : List (Nat × Nat × Nat × Nat × Nat × Nat) := mpL_0 ++ (mpL_1 ++ (mpL_2 ++ (mpL_3)))
def mt0 : MethodName × ByteArray × Nat × Option FieldType × Nat × Nat := (yL_law, cL_law, 4, some .boolean, 13, 0)
def mt (i : Nat) : MethodName × ByteArray × Nat × Option FieldType × Nat × Nat := (mtL[i]?).getD mt0
def my (i : Nat) := (mt i).1
def mcc (i : Nat) := (mt i).2.1
def mnl (i : Nat) := (mt i).2.2.1
def mrt (i : Nat) := (mt i).2.2.2.1
def mci (i : Nat) := (mt i).2.2.2.2.1
def mal (i : Nat) := (mt i).2.2.2.2.2
theorem mt_0 : mcc 0 = cX0_init ∧ mnl 0 = 2 ∧ mrt 0 = none ∧ mci 0 = 0 := ⟨rfl, rfl, rfl, rfl⟩
theorem mcc_0 : mcc 0 = cX0_init := rfl
theorem mci_0 : mci 0 = 0 := rfl
theorem mt_1 : mcc 1 = cX0_addDoing ∧ mnl 1 = 4 ∧ mrt 1 = (some .int) ∧ mci 1 = 0 := ⟨rfl, rfl, rfl, rfl⟩
theorem mcc_1 : mcc 1 = cX0_addDoing := rfl
theorem mci_1 : mci 1 = 0 := rfl
theorem mt_2 : mcc 2 = cX0_addReport ∧ mnl 2 = 5 ∧ mrt 2 = (some .int) ∧ mci 2 = 0 := ⟨rfl, rfl, rfl, rfl⟩
theorem mcc_2 : mcc 2 = cX0_addReport := rfl
theorem mci_2 : mci 2 = 0 := rfl
theorem mt_3 : mcc 3 = cX0_addFinding ∧ mnl 3 = 4 ∧ mrt 3 = (some .int) ∧ mci 3 = 0 := ⟨rfl, rfl, rfl, rfl⟩
theorem mcc_3 : mcc 3 = cX0_addFinding := rfl
theorem mci_3 : mci 3 = 0 := rfl
theorem mt_4 : mcc 4 = cX0_takeReportBack ∧ mnl 4 = 2 ∧ mrt 4 = (some .int) ∧ mci 4 = 0 := ⟨rfl, rfl, rfl, rfl⟩
theorem mcc_4 : mcc 4 = cX0_takeReportBack := rfl
theorem mci_4 : mci 4 = 0 := rfl
theorem mt_5 : mcc 5 = cX0_isLet ∧ mnl 5 = 4 ∧ mrt 5 = (some .boolean) ∧ mci 5 = 0 := ⟨rfl, rfl, rfl, rfl⟩
theorem mcc_5 : mcc 5 = cX0_isLet := rfl
theorem mci_5 : mci 5 = 0 := rfl
theorem mt_6 : mcc 6 = cX0_allLeft ∧ mnl 6 = 3 ∧ mrt 6 = (some .int) ∧ mci 6 = 0 := ⟨rfl, rfl, rfl, rfl⟩
theorem mcc_6 : mcc 6 = cX0_allLeft := rfl
theorem mci_6 : mci 6 = 0 := rfl
theorem mt_7 : mcc 7 = cX0_worstOf ∧ mnl 7 = 7 ∧ mrt 7 = (some .int) ∧ mci 7 = 0 := ⟨rfl, rfl, rfl, rfl⟩
theorem mcc_7 : mcc 7 = cX0_worstOf := rfl
theorem mci_7 : mci 7 = 0 := rfl
theorem mt_8 : mcc 8 = cX0_bestLook ∧ mnl 8 = 8 ∧ mrt 8 = (some .int) ∧ mci 8 = 0 := ⟨rfl, rfl, rfl, rfl⟩
theorem mcc_8 : mcc 8 = cX0_bestLook := rfl
theorem mci_8 : mci 8 = 0 := rfl
theorem mt_9 : mcc 9 = cX0_allStanding ∧ mnl 9 = 4 ∧ mrt 9 = (some .int) ∧ mci 9 = 0 := ⟨rfl, rfl, rfl, rfl⟩
theorem mcc_9 : mcc 9 = cX0_allStanding := rfl
theorem mci_9 : mci 9 = 0 := rfl
theorem mt_10 : mcc 10 = cX0_isLetByAll ∧ mnl 10 = 4 ∧ mrt 10 = (some .boolean) ∧ mci 10 = 0 := ⟨rfl, rfl, rfl, rfl⟩
theorem mcc_10 : mcc 10 = cX0_isLetByAll := rfl
theorem mci_10 : mci 10 = 0 := rfl
theorem mt_11 : mcc 11 = cX0_isNoticed ∧ mnl 11 = 5 ∧ mrt 11 = (some .boolean) ∧ mci 11 = 0 := ⟨rfl, rfl, rfl, rfl⟩
theorem mcc_11 : mcc 11 = cX0_isNoticed := rfl
theorem mci_11 : mci 11 = 0 := rfl
theorem mt_12 : mcc 12 = cX1_init ∧ mnl 12 = 4 ∧ mrt 12 = none ∧ mci 12 = 1 := ⟨rfl, rfl, rfl, rfl⟩
theorem mcc_12 : mcc 12 = cX1_init := rfl
theorem mci_12 : mci 12 = 1 := rfl
theorem mt_13 : mcc 13 = cX1_valueOf ∧ mnl 13 = 8 ∧ mrt 13 = (some .int) ∧ mci 13 = 1 := ⟨rfl, rfl, rfl, rfl⟩
theorem mcc_13 : mcc 13 = cX1_valueOf := rfl
theorem mci_13 : mci 13 = 1 := rfl
theorem mt_14 : mcc 14 = cX1_allBreaches ∧ mnl 14 = 5 ∧ mrt 14 = (some .int) ∧ mci 14 = 1 := ⟨rfl, rfl, rfl, rfl⟩
theorem mcc_14 : mcc 14 = cX1_allBreaches := rfl
theorem mci_14 : mci 14 = 1 := rfl
theorem mt_15 : mcc 15 = cX1_knownBreaches ∧ mnl 15 = 10 ∧ mrt 15 = (some .int) ∧ mci 15 = 1 := ⟨rfl, rfl, rfl, rfl⟩
theorem mcc_15 : mcc 15 = cX1_knownBreaches := rfl
theorem mci_15 : mci 15 = 1 := rfl
theorem mt_16 : mcc 16 = cX1_allAstray ∧ mnl 16 = 5 ∧ mrt 16 = (some .int) ∧ mci 16 = 1 := ⟨rfl, rfl, rfl, rfl⟩
theorem mcc_16 : mcc 16 = cX1_allAstray := rfl
theorem mci_16 : mci 16 = 1 := rfl
theorem mt_17 : mcc 17 = cX1_tellName ∧ mnl 17 = 3 ∧ mrt 17 = none ∧ mci 17 = 1 := ⟨rfl, rfl, rfl, rfl⟩
theorem mcc_17 : mcc 17 = cX1_tellName := rfl
theorem mci_17 : mci 17 = 1 := rfl
theorem mt_18 : mcc 18 = cX1_signedFar ∧ mnl 18 = 4 ∧ mrt 18 = (some .int) ∧ mci 18 = 1 := ⟨rfl, rfl, rfl, rfl⟩
theorem mcc_18 : mcc 18 = cX1_signedFar := rfl
theorem mci_18 : mci 18 = 1 := rfl
theorem mt_19 : mcc 19 = cX1_isOnOtherSide ∧ mnl 19 = 3 ∧ mrt 19 = (some .boolean) ∧ mci 19 = 1 := ⟨rfl, rfl, rfl, rfl⟩
theorem mcc_19 : mcc 19 = cX1_isOnOtherSide := rfl
theorem mci_19 : mci 19 = 1 := rfl
theorem mt_20 : mcc 20 = cX2_init ∧ mnl 20 = 1 ∧ mrt 20 = none ∧ mci 20 = 2 := ⟨rfl, rfl, rfl, rfl⟩
theorem mcc_20 : mcc 20 = cX2_init := rfl
theorem mci_20 : mci 20 = 2 := rfl
theorem mt_21 : mcc 21 = cX2_isUnder ∧ mnl 21 = 4 ∧ mrt 21 = (some .boolean) ∧ mci 21 = 2 := ⟨rfl, rfl, rfl, rfl⟩
theorem mcc_21 : mcc 21 = cX2_isUnder := rfl
theorem mci_21 : mci 21 = 2 := rfl
theorem mt_22 : mcc 22 = cX2_sightOf ∧ mnl 22 = 5 ∧ mrt 22 = (some .int) ∧ mci 22 = 2 := ⟨rfl, rfl, rfl, rfl⟩
theorem mcc_22 : mcc 22 = cX2_sightOf := rfl
theorem mci_22 : mci 22 = 2 := rfl
theorem mt_23 : mcc 23 = cX2_become ∧ mnl 23 = 5 ∧ mrt 23 = none ∧ mci 23 = 2 := ⟨rfl, rfl, rfl, rfl⟩
theorem mcc_23 : mcc 23 = cX2_become := rfl
theorem mci_23 : mci 23 = 2 := rfl
theorem mt_24 : mcc 24 = cX2_walkBy ∧ mnl 24 = 2 ∧ mrt 24 = (some .int) ∧ mci 24 = 2 := ⟨rfl, rfl, rfl, rfl⟩
theorem mcc_24 : mcc 24 = cX2_walkBy := rfl
theorem mci_24 : mci 24 = 2 := rfl
theorem mt_25 : mcc 25 = cX2_cellIn ∧ mnl 25 = 2 ∧ mrt 25 = (some .int) ∧ mci 25 = 2 := ⟨rfl, rfl, rfl, rfl⟩
theorem mcc_25 : mcc 25 = cX2_cellIn := rfl
theorem mci_25 : mci 25 = 2 := rfl
theorem mt_26 : mcc 26 = cX3_init ∧ mnl 26 = 3 ∧ mrt 26 = none ∧ mci 26 = 3 := ⟨rfl, rfl, rfl, rfl⟩
theorem mcc_26 : mcc 26 = cX3_init := rfl
theorem mci_26 : mci 26 = 3 := rfl
theorem mt_27 : mcc 27 = cX3_add ∧ mnl 27 = 5 ∧ mrt 27 = (some .int) ∧ mci 27 = 3 := ⟨rfl, rfl, rfl, rfl⟩
theorem mcc_27 : mcc 27 = cX3_add := rfl
theorem mci_27 : mci 27 = 3 := rfl
theorem mt_28 : mcc 28 = cX3_has ∧ mnl 28 = 2 ∧ mrt 28 = (some .boolean) ∧ mci 28 = 3 := ⟨rfl, rfl, rfl, rfl⟩
theorem mcc_28 : mcc 28 = cX3_has := rfl
theorem mci_28 : mci 28 = 3 := rfl
theorem mt_29 : mcc 29 = cX3_isOfArmy ∧ mnl 29 = 2 ∧ mrt 29 = (some .boolean) ∧ mci 29 = 3 := ⟨rfl, rfl, rfl, rfl⟩
theorem mcc_29 : mcc 29 = cX3_isOfArmy := rfl
theorem mci_29 : mci 29 = 3 := rfl
theorem mt_30 : mcc 30 = cX3_allHeld ∧ mnl 30 = 3 ∧ mrt 30 = (some .int) ∧ mci 30 = 3 := ⟨rfl, rfl, rfl, rfl⟩
theorem mcc_30 : mcc 30 = cX3_allHeld := rfl
theorem mci_30 : mci 30 = 3 := rfl
theorem mt_31 : mcc 31 = cX3_sightIn ∧ mnl 31 = 3 ∧ mrt 31 = (some .int) ∧ mci 31 = 3 := ⟨rfl, rfl, rfl, rfl⟩
theorem mcc_31 : mcc 31 = cX3_sightIn := rfl
theorem mci_31 : mci 31 = 3 := rfl
theorem mt_32 : mcc 32 = cX3_canSee ∧ mnl 32 = 5 ∧ mrt 32 = (some .boolean) ∧ mci 32 = 3 := ⟨rfl, rfl, rfl, rfl⟩
theorem mcc_32 : mcc 32 = cX3_canSee := rfl
theorem mci_32 : mci 32 = 3 := rfl
theorem mt_33 : mcc 33 = cX3_seenBy ∧ mnl 33 = 3 ∧ mrt 33 = (some .long) ∧ mci 33 = 3 := ⟨rfl, rfl, rfl, rfl⟩
theorem mcc_33 : mcc 33 = cX3_seenBy := rfl
theorem mci_33 : mci 33 = 3 := rfl
theorem mt_34 : mcc 34 = cX3_seenBySide ∧ mnl 34 = 6 ∧ mrt 34 = (some .long) ∧ mci 34 = 3 := ⟨rfl, rfl, rfl, rfl⟩
theorem mcc_34 : mcc 34 = cX3_seenBySide := rfl
theorem mci_34 : mci 34 = 3 := rfl
theorem mt_35 : mcc 35 = cX3_canHear ∧ mnl 35 = 5 ∧ mrt 35 = (some .boolean) ∧ mci 35 = 3 := ⟨rfl, rfl, rfl, rfl⟩
theorem mcc_35 : mcc 35 = cX3_canHear := rfl
theorem mci_35 : mci 35 = 3 := rfl
theorem mt_36 : mcc 36 = cX4_init ∧ mnl 36 = 1 ∧ mrt 36 = none ∧ mci 36 = 4 := ⟨rfl, rfl, rfl, rfl⟩
theorem mcc_36 : mcc 36 = cX4_init := rfl
theorem mci_36 : mci 36 = 4 := rfl
theorem mt_37 : mcc 37 = cX4_addPermit ∧ mnl 37 = 6 ∧ mrt 37 = (some .int) ∧ mci 37 = 4 := ⟨rfl, rfl, rfl, rfl⟩
theorem mcc_37 : mcc 37 = cX4_addPermit := rfl
theorem mci_37 : mci 37 = 4 := rfl
theorem mt_38 : mcc 38 = cX4_leastPermit ∧ mnl 38 = 7 ∧ mrt 38 = (some .int) ∧ mci 38 = 4 := ⟨rfl, rfl, rfl, rfl⟩
theorem mcc_38 : mcc 38 = cX4_leastPermit := rfl
theorem mci_38 : mci 38 = 4 := rfl
theorem mt_39 : mcc 39 = cX4_addProtest ∧ mnl 39 = 4 ∧ mrt 39 = (some .int) ∧ mci 39 = 4 := ⟨rfl, rfl, rfl, rfl⟩
theorem mcc_39 : mcc 39 = cX4_addProtest := rfl
theorem mci_39 : mci 39 = 4 := rfl
theorem mt_40 : mcc 40 = cX4_hasProtest ∧ mnl 40 = 2 ∧ mrt 40 = (some .boolean) ∧ mci 40 = 4 := ⟨rfl, rfl, rfl, rfl⟩
theorem mcc_40 : mcc 40 = cX4_hasProtest := rfl
theorem mci_40 : mci 40 = 4 := rfl
theorem mt_41 : mcc 41 = cX4_answerProtest ∧ mnl 41 = 3 ∧ mrt 41 = (some .int) ∧ mci 41 = 4 := ⟨rfl, rfl, rfl, rfl⟩
theorem mcc_41 : mcc 41 = cX4_answerProtest := rfl
theorem mci_41 : mci 41 = 4 := rfl
theorem mt_42 : mcc 42 = cX4_allLate ∧ mnl 42 = 5 ∧ mrt 42 = (some .int) ∧ mci 42 = 4 := ⟨rfl, rfl, rfl, rfl⟩
theorem mcc_42 : mcc 42 = cX4_allLate := rfl
theorem mci_42 : mci 42 = 4 := rfl
theorem mt_43 : mcc 43 = cX4_leastBlamer ∧ mnl 43 = 3 ∧ mrt 43 = (some .int) ∧ mci 43 = 4 := ⟨rfl, rfl, rfl, rfl⟩
theorem mcc_43 : mcc 43 = cX4_leastBlamer := rfl
theorem mci_43 : mci 43 = 4 := rfl
theorem mt_44 : mcc 44 = cX4_putListed ∧ mnl 44 = 7 ∧ mrt 44 = (some .int) ∧ mci 44 = 4 := ⟨rfl, rfl, rfl, rfl⟩
theorem mcc_44 : mcc 44 = cX4_putListed := rfl
theorem mci_44 : mci 44 = 4 := rfl
theorem mt_45 : mcc 45 = cX5_init ∧ mnl 45 = 3 ∧ mrt 45 = none ∧ mci 45 = 5 := ⟨rfl, rfl, rfl, rfl⟩
theorem mcc_45 : mcc 45 = cX5_init := rfl
theorem mci_45 : mci 45 = 5 := rfl
theorem mt_46 : mcc 46 = cX5_addCell ∧ mnl 46 = 2 ∧ mrt 46 = (some .int) ∧ mci 46 = 5 := ⟨rfl, rfl, rfl, rfl⟩
theorem mcc_46 : mcc 46 = cX5_addCell := rfl
theorem mci_46 : mci 46 = 5 := rfl
theorem mt_47 : mcc 47 = cX5_bestPosts ∧ mnl 47 = 7 ∧ mrt 47 = (some .int) ∧ mci 47 = 5 := ⟨rfl, rfl, rfl, rfl⟩
theorem mcc_47 : mcc 47 = cX5_bestPosts := rfl
theorem mci_47 : mci 47 = 5 := rfl
theorem mt_48 : mcc 48 = cX5_seenFromAll ∧ mnl 48 = 5 ∧ mrt 48 = (some .long) ∧ mci 48 = 5 := ⟨rfl, rfl, rfl, rfl⟩
theorem mcc_48 : mcc 48 = cX5_seenFromAll := rfl
theorem mci_48 : mci 48 = 5 := rfl
theorem mt_49 : mcc 49 = cX5_lookFromAll ∧ mnl 49 = 3 ∧ mrt 49 = none ∧ mci 49 = 5 := ⟨rfl, rfl, rfl, rfl⟩
theorem mcc_49 : mcc 49 = cX5_lookFromAll := rfl
theorem mci_49 : mci 49 = 5 := rfl
theorem mt_50 : mcc 50 = cX5_strengthOf ∧ mnl 50 = 4 ∧ mrt 50 = (some .int) ∧ mci 50 = 5 := ⟨rfl, rfl, rfl, rfl⟩
theorem mcc_50 : mcc 50 = cX5_strengthOf := rfl
theorem mci_50 : mci 50 = 5 := rfl
theorem mt_51 : mcc 51 = cX5_canDraw ∧ mnl 51 = 3 ∧ mrt 51 = (some .boolean) ∧ mci 51 = 5 := ⟨rfl, rfl, rfl, rfl⟩
theorem mcc_51 : mcc 51 = cX5_canDraw := rfl
theorem mci_51 : mci 51 = 5 := rfl
theorem mt_52 : mcc 52 = cX5_drawnAt ∧ mnl 52 = 7 ∧ mrt 52 = (some .int) ∧ mci 52 = 5 := ⟨rfl, rfl, rfl, rfl⟩
theorem mcc_52 : mcc 52 = cX5_drawnAt := rfl
theorem mci_52 : mci 52 = 5 := rfl
theorem mt_53 : mcc 53 = cX5_isGunHere ∧ mnl 53 = 2 ∧ mrt 53 = (some .boolean) ∧ mci 53 = 5 := ⟨rfl, rfl, rfl, rfl⟩
theorem mcc_53 : mcc 53 = cX5_isGunHere := rfl
theorem mci_53 : mci 53 = 5 := rfl
theorem mt_54 : mcc 54 = cX5_tellGuns ∧ mnl 54 = 3 ∧ mrt 54 = none ∧ mci 54 = 5 := ⟨rfl, rfl, rfl, rfl⟩
theorem mcc_54 : mcc 54 = cX5_tellGuns := rfl
theorem mci_54 : mci 54 = 5 := rfl
theorem mt_55 : mcc 55 = cX5_openSets ∧ mnl 55 = 6 ∧ mrt 55 = none ∧ mci 55 = 5 := ⟨rfl, rfl, rfl, rfl⟩
theorem mcc_55 : mcc 55 = cX5_openSets := rfl
theorem mci_55 : mci 55 = 5 := rfl
theorem mt_56 : mcc 56 = cX5_leadOf ∧ mnl 56 = 5 ∧ mrt 56 = (some .int) ∧ mci 56 = 5 := ⟨rfl, rfl, rfl, rfl⟩
theorem mcc_56 : mcc 56 = cX5_leadOf := rfl
theorem mci_56 : mci 56 = 5 := rfl
theorem mt_57 : mcc 57 = cX5_nextDrawn ∧ mnl 57 = 3 ∧ mrt 57 = (some .int) ∧ mci 57 = 5 := ⟨rfl, rfl, rfl, rfl⟩
theorem mcc_57 : mcc 57 = cX5_nextDrawn := rfl
theorem mci_57 : mci 57 = 5 := rfl
theorem mt_58 : mcc 58 = cX6_init ∧ mnl 58 = 3 ∧ mrt 58 = none ∧ mci 58 = 6 := ⟨rfl, rfl, rfl, rfl⟩
theorem mcc_58 : mcc 58 = cX6_init := rfl
theorem mci_58 : mci 58 = 6 := rfl
theorem mt_59 : mcc 59 = cX6_isName ∧ mnl 59 = 1 ∧ mrt 59 = (some .boolean) ∧ mci 59 = 6 := ⟨rfl, rfl, rfl, rfl⟩
theorem mcc_59 : mcc 59 = cX6_isName := rfl
theorem mci_59 : mci 59 = 6 := rfl
theorem mt_60 : mcc 60 = cX6_read ∧ mnl 60 = 4 ∧ mrt 60 = (some .int) ∧ mci 60 = 6 := ⟨rfl, rfl, rfl, rfl⟩
theorem mcc_60 : mcc 60 = cX6_read := rfl
theorem mci_60 : mci 60 = 6 := rfl
theorem mt_61 : mcc 61 = cX6_splitTape ∧ mnl 61 = 4 ∧ mrt 61 = none ∧ mci 61 = 6 := ⟨rfl, rfl, rfl, rfl⟩
theorem mcc_61 : mcc 61 = cX6_splitTape := rfl
theorem mci_61 : mci 61 = 6 := rfl
theorem mt_62 : mcc 62 = cX6_endOf ∧ mnl 62 = 3 ∧ mrt 62 = (some .int) ∧ mci 62 = 6 := ⟨rfl, rfl, rfl, rfl⟩
theorem mcc_62 : mcc 62 = cX6_endOf := rfl
theorem mci_62 : mci 62 = 6 := rfl
theorem mt_63 : mcc 63 = cX6_tokenOf ∧ mnl 63 = 6 ∧ mrt 63 = (some .int) ∧ mci 63 = 6 := ⟨rfl, rfl, rfl, rfl⟩
theorem mcc_63 : mcc 63 = cX6_tokenOf := rfl
theorem mci_63 : mci 63 = 6 := rfl
theorem mt_64 : mcc 64 = cX6_wordOf ∧ mnl 64 = 3 ∧ mrt 64 = (some .int) ∧ mci 64 = 6 := ⟨rfl, rfl, rfl, rfl⟩
theorem mcc_64 : mcc 64 = cX6_wordOf := rfl
theorem mci_64 : mci 64 = 6 := rfl
theorem mt_65 : mcc 65 = cX6_isSpelt ∧ mnl 65 = 5 ∧ mrt 65 = (some .boolean) ∧ mci 65 = 6 := ⟨rfl, rfl, rfl, rfl⟩
theorem mcc_65 : mcc 65 = cX6_isSpelt := rfl
theorem mci_65 : mci 65 = 6 := rfl
theorem mt_66 : mcc 66 = cX6_numberAt ∧ mnl 66 = 4 ∧ mrt 66 = (some .int) ∧ mci 66 = 6 := ⟨rfl, rfl, rfl, rfl⟩
theorem mcc_66 : mcc 66 = cX6_numberAt := rfl
theorem mci_66 : mci 66 = 6 := rfl
theorem mt_67 : mcc 67 = cX6_isLetter ∧ mnl 67 = 1 ∧ mrt 67 = (some .boolean) ∧ mci 67 = 6 := ⟨rfl, rfl, rfl, rfl⟩
theorem mcc_67 : mcc 67 = cX6_isLetter := rfl
theorem mci_67 : mci 67 = 6 := rfl
theorem mt_68 : mcc 68 = cX6_isDigit ∧ mnl 68 = 1 ∧ mrt 68 = (some .boolean) ∧ mci 68 = 6 := ⟨rfl, rfl, rfl, rfl⟩
theorem mcc_68 : mcc 68 = cX6_isDigit := rfl
theorem mci_68 : mci 68 = 6 := rfl
theorem mt_69 : mcc 69 = cX6_readPart ∧ mnl 69 = 3 ∧ mrt 69 = none ∧ mci 69 = 6 := ⟨rfl, rfl, rfl, rfl⟩
theorem mcc_69 : mcc 69 = cX6_readPart := rfl
theorem mci_69 : mci 69 = 6 := rfl
theorem mt_70 : mcc 70 = cX6_readOr ∧ mnl 70 = 3 ∧ mrt 70 = none ∧ mci 70 = 6 := ⟨rfl, rfl, rfl, rfl⟩
theorem mcc_70 : mcc 70 = cX6_readOr := rfl
theorem mci_70 : mci 70 = 6 := rfl
theorem mt_71 : mcc 71 = cX6_readAnd ∧ mnl 71 = 3 ∧ mrt 71 = none ∧ mci 71 = 6 := ⟨rfl, rfl, rfl, rfl⟩
theorem mcc_71 : mcc 71 = cX6_readAnd := rfl
theorem mci_71 : mci 71 = 6 := rfl
theorem mt_72 : mcc 72 = cX6_readNot ∧ mnl 72 = 2 ∧ mrt 72 = none ∧ mci 72 = 6 := ⟨rfl, rfl, rfl, rfl⟩
theorem mcc_72 : mcc 72 = cX6_readNot := rfl
theorem mci_72 : mci 72 = 6 := rfl
theorem mt_73 : mcc 73 = cX6_readComparison ∧ mnl 73 = 3 ∧ mrt 73 = none ∧ mci 73 = 6 := ⟨rfl, rfl, rfl, rfl⟩
theorem mcc_73 : mcc 73 = cX6_readComparison := rfl
theorem mci_73 : mci 73 = 6 := rfl
theorem mt_74 : mcc 74 = cX6_readSum ∧ mnl 74 = 4 ∧ mrt 74 = none ∧ mci 74 = 6 := ⟨rfl, rfl, rfl, rfl⟩
theorem mcc_74 : mcc 74 = cX6_readSum := rfl
theorem mci_74 : mci 74 = 6 := rfl
theorem mt_75 : mcc 75 = cX6_readTerm ∧ mnl 75 = 3 ∧ mrt 75 = none ∧ mci 75 = 6 := ⟨rfl, rfl, rfl, rfl⟩
theorem mcc_75 : mcc 75 = cX6_readTerm := rfl
theorem mci_75 : mci 75 = 6 := rfl
theorem mt_76 : mcc 76 = cX6_readOne ∧ mnl 76 = 3 ∧ mrt 76 = none ∧ mci 76 = 6 := ⟨rfl, rfl, rfl, rfl⟩
theorem mcc_76 : mcc 76 = cX6_readOne := rfl
theorem mci_76 : mci 76 = 6 := rfl
theorem mt_77 : mcc 77 = cX6_isNext ∧ mnl 77 = 2 ∧ mrt 77 = (some .boolean) ∧ mci 77 = 6 := ⟨rfl, rfl, rfl, rfl⟩
theorem mcc_77 : mcc 77 = cX6_isNext := rfl
theorem mci_77 : mci 77 = 6 := rfl
theorem mt_78 : mcc 78 = cX6_expect ∧ mnl 78 = 2 ∧ mrt 78 = none ∧ mci 78 = 6 := ⟨rfl, rfl, rfl, rfl⟩
theorem mcc_78 : mcc 78 = cX6_expect := rfl
theorem mci_78 : mci 78 = 6 := rfl
theorem mt_79 : mcc 79 = cX6_skipToken ∧ mnl 79 = 1 ∧ mrt 79 = none ∧ mci 79 = 6 := ⟨rfl, rfl, rfl, rfl⟩
theorem mcc_79 : mcc 79 = cX6_skipToken := rfl
theorem mci_79 : mci 79 = 6 := rfl
theorem mt_80 : mcc 80 = cX6_fail ∧ mnl 80 = 1 ∧ mrt 80 = none ∧ mci 80 = 6 := ⟨rfl, rfl, rfl, rfl⟩
theorem mcc_80 : mcc 80 = cX6_fail := rfl
theorem mci_80 : mci 80 = 6 := rfl
theorem mt_81 : mcc 81 = cX6_write ∧ mnl 81 = 2 ∧ mrt 81 = none ∧ mci 81 = 6 := ⟨rfl, rfl, rfl, rfl⟩
theorem mcc_81 : mcc 81 = cX6_write := rfl
theorem mci_81 : mci 81 = 6 := rfl
theorem mt_82 : mcc 82 = cX7_init ∧ mnl 82 = 1 ∧ mrt 82 = none ∧ mci 82 = 7 := ⟨rfl, rfl, rfl, rfl⟩
theorem mcc_82 : mcc 82 = cX7_init := rfl
theorem mci_82 : mci 82 = 7 := rfl
theorem mt_83 : mcc 83 = cX7_isMissing ∧ mnl 83 = 1 ∧ mrt 83 = (some .boolean) ∧ mci 83 = 7 := ⟨rfl, rfl, rfl, rfl⟩
theorem mcc_83 : mcc 83 = cX7_isMissing := rfl
theorem mci_83 : mci 83 = 7 := rfl
theorem mt_84 : mcc 84 = cX7_has ∧ mnl 84 = 2 ∧ mrt 84 = (some .boolean) ∧ mci 84 = 7 := ⟨rfl, rfl, rfl, rfl⟩
theorem mcc_84 : mcc 84 = cX7_has := rfl
theorem mci_84 : mci 84 = 7 := rfl
theorem mt_85 : mcc 85 = cX7_hasRun ∧ mnl 85 = 3 ∧ mrt 85 = (some .boolean) ∧ mci 85 = 7 := ⟨rfl, rfl, rfl, rfl⟩
theorem mcc_85 : mcc 85 = cX7_hasRun := rfl
theorem mci_85 : mci 85 = 7 := rfl
theorem mt_86 : mcc 86 = cX7_become ∧ mnl 86 = 3 ∧ mrt 86 = (some .int) ∧ mci 86 = 7 := ⟨rfl, rfl, rfl, rfl⟩
theorem mcc_86 : mcc 86 = cX7_become := rfl
theorem mci_86 : mci 86 = 7 := rfl
theorem mt_87 : mcc 87 = cX7_put ∧ mnl 87 = 3 ∧ mrt 87 = (some .int) ∧ mci 87 = 7 := ⟨rfl, rfl, rfl, rfl⟩
theorem mcc_87 : mcc 87 = cX7_put := rfl
theorem mci_87 : mci 87 = 7 := rfl
theorem mt_88 : mcc 88 = cX8_init ∧ mnl 88 = 3 ∧ mrt 88 = none ∧ mci 88 = 8 := ⟨rfl, rfl, rfl, rfl⟩
theorem mcc_88 : mcc 88 = cX8_init := rfl
theorem mci_88 : mci 88 = 8 := rfl
theorem mt_89 : mcc 89 = cX8_shotsBehind ∧ mnl 89 = 7 ∧ mrt 89 = (some .int) ∧ mci 89 = 8 := ⟨rfl, rfl, rfl, rfl⟩
theorem mcc_89 : mcc 89 = cX8_shotsBehind := rfl
theorem mci_89 : mci 89 = 8 := rfl
theorem mt_90 : mcc 90 = cX8_leastCalm ∧ mnl 90 = 11 ∧ mrt 90 = (some .int) ∧ mci 90 = 8 := ⟨rfl, rfl, rfl, rfl⟩
theorem mcc_90 : mcc 90 = cX8_leastCalm := rfl
theorem mci_90 : mci 90 = 8 := rfl
theorem mt_91 : mcc 91 = cX8_calledForth ∧ mnl 91 = 8 ∧ mrt 91 = (some .int) ∧ mci 91 = 8 := ⟨rfl, rfl, rfl, rfl⟩
theorem mcc_91 : mcc 91 = cX8_calledForth := rfl
theorem mci_91 : mci 91 = 8 := rfl
theorem mt_92 : mcc 92 = cX8_heardBy ∧ mnl 92 = 7 ∧ mrt 92 = (some .int) ∧ mci 92 = 8 := ⟨rfl, rfl, rfl, rfl⟩
theorem mcc_92 : mcc 92 = cX8_heardBy := rfl
theorem mci_92 : mci 92 = 8 := rfl
theorem mt_93 : mcc 93 = cX9_init ∧ mnl 93 = 2 ∧ mrt 93 = none ∧ mci 93 = 9 := ⟨rfl, rfl, rfl, rfl⟩
theorem mcc_93 : mcc 93 = cX9_init := rfl
theorem mci_93 : mci 93 = 9 := rfl
theorem mt_94 : mcc 94 = cX9_has ∧ mnl 94 = 2 ∧ mrt 94 = (some .boolean) ∧ mci 94 = 9 := ⟨rfl, rfl, rfl, rfl⟩
theorem mcc_94 : mcc 94 = cX9_has := rfl
theorem mci_94 : mci 94 = 9 := rfl
theorem mt_95 : mcc 95 = cX9_feedTape ∧ mnl 95 = 5 ∧ mrt 95 = (some .int) ∧ mci 95 = 9 := ⟨rfl, rfl, rfl, rfl⟩
theorem mcc_95 : mcc 95 = cX9_feedTape := rfl
theorem mci_95 : mci 95 = 9 := rfl
theorem mt_96 : mcc 96 = cX9_readTape ∧ mnl 96 = 3 ∧ mrt 96 = (some .int) ∧ mci 96 = 9 := ⟨rfl, rfl, rfl, rfl⟩
theorem mcc_96 : mcc 96 = cX9_readTape := rfl
theorem mci_96 : mci 96 = 9 := rfl
theorem mt_97 : mcc 97 = cX9_valueOf ∧ mnl 97 = 8 ∧ mrt 97 = (some .int) ∧ mci 97 = 9 := ⟨rfl, rfl, rfl, rfl⟩
theorem mcc_97 : mcc 97 = cX9_valueOf := rfl
theorem mci_97 : mci 97 = 9 := rfl
theorem mt_98 : mcc 98 = cX9_ofOne ∧ mnl 98 = 2 ∧ mrt 98 = (some .int) ∧ mci 98 = 9 := ⟨rfl, rfl, rfl, rfl⟩
theorem mcc_98 : mcc 98 = cX9_ofOne := rfl
theorem mci_98 : mci 98 = 9 := rfl
theorem mt_99 : mcc 99 = cX9_ofTwo ∧ mnl 99 = 3 ∧ mrt 99 = (some .int) ∧ mci 99 = 9 := ⟨rfl, rfl, rfl, rfl⟩
theorem mcc_99 : mcc 99 = cX9_ofTwo := rfl
theorem mci_99 : mci 99 = 9 := rfl
theorem mt_100 : mcc 100 = cX10_init ∧ mnl 100 = 1 ∧ mrt 100 = none ∧ mci 100 = 10 := ⟨rfl, rfl, rfl, rfl⟩
theorem mcc_100 : mcc 100 = cX10_init := rfl
theorem mci_100 : mci 100 = 10 := rfl
theorem mt_101 : mcc 101 = cX10_sideOf ∧ mnl 101 = 2 ∧ mrt 101 = (some .int) ∧ mci 101 = 10 := ⟨rfl, rfl, rfl, rfl⟩
theorem mcc_101 : mcc 101 = cX10_sideOf := rfl
theorem mci_101 : mci 101 = 10 := rfl
theorem mt_102 : mcc 102 = cX10_farOf ∧ mnl 102 = 3 ∧ mrt 102 = (some .int) ∧ mci 102 = 10 := ⟨rfl, rfl, rfl, rfl⟩
theorem mcc_102 : mcc 102 = cX10_farOf := rfl
theorem mci_102 : mci 102 = 10 := rfl
theorem mt_103 : mcc 103 = cX10_isStrip ∧ mnl 103 = 2 ∧ mrt 103 = (some .boolean) ∧ mci 103 = 10 := ⟨rfl, rfl, rfl, rfl⟩
theorem mcc_103 : mcc 103 = cX10_isStrip := rfl
theorem mci_103 : mci 103 = 10 := rfl
theorem mt_104 : mcc 104 = cX10_sightFrom ∧ mnl 104 = 4 ∧ mrt 104 = (some .int) ∧ mci 104 = 10 := ⟨rfl, rfl, rfl, rfl⟩
theorem mcc_104 : mcc 104 = cX10_sightFrom := rfl
theorem mci_104 : mci 104 = 10 := rfl
theorem mt_105 : mcc 105 = cX10_canSee ∧ mnl 105 = 12 ∧ mrt 105 = (some .boolean) ∧ mci 105 = 10 := ⟨rfl, rfl, rfl, rfl⟩
theorem mcc_105 : mcc 105 = cX10_canSee := rfl
theorem mci_105 : mci 105 = 10 := rfl
theorem mt_106 : mcc 106 = cX10_seenFrom ∧ mnl 106 = 6 ∧ mrt 106 = (some .long) ∧ mci 106 = 10 := ⟨rfl, rfl, rfl, rfl⟩
theorem mcc_106 : mcc 106 = cX10_seenFrom := rfl
theorem mci_106 : mci 106 = 10 := rfl
theorem mt_107 : mcc 107 = cX11_init ∧ mnl 107 = 1 ∧ mrt 107 = none ∧ mci 107 = 11 := ⟨rfl, rfl, rfl, rfl⟩
theorem mcc_107 : mcc 107 = cX11_init := rfl
theorem mci_107 : mci 107 = 11 := rfl
theorem mt_108 : mcc 108 = cX11_height ∧ mnl 108 = 4 ∧ mrt 108 = (some .int) ∧ mci 108 = 11 := ⟨rfl, rfl, rfl, rfl⟩
theorem mcc_108 : mcc 108 = cX11_height := rfl
theorem mci_108 : mci 108 = 11 := rfl
theorem mt_109 : mcc 109 = cX11_line ∧ mnl 109 = 4 ∧ mrt 109 = (some .int) ∧ mci 109 = 11 := ⟨rfl, rfl, rfl, rfl⟩
theorem mcc_109 : mcc 109 = cX11_line := rfl
theorem mci_109 : mci 109 = 11 := rfl
theorem mt_110 : mcc 110 = cX11_set ∧ mnl 110 = 4 ∧ mrt 110 = (some .int) ∧ mci 110 = 11 := ⟨rfl, rfl, rfl, rfl⟩
theorem mcc_110 : mcc 110 = cX11_set := rfl
theorem mci_110 : mci 110 = 11 := rfl
theorem mt_111 : mcc 111 = cX11_cellTold ∧ mnl 111 = 3 ∧ mrt 111 = (some .int) ∧ mci 111 = 11 := ⟨rfl, rfl, rfl, rfl⟩
theorem mcc_111 : mcc 111 = cX11_cellTold := rfl
theorem mci_111 : mci 111 = 11 := rfl
theorem mt_112 : mcc 112 = cX11_mark ∧ mnl 112 = 5 ∧ mrt 112 = (some .int) ∧ mci 112 = 11 := ⟨rfl, rfl, rfl, rfl⟩
theorem mcc_112 : mcc 112 = cX11_mark := rfl
theorem mci_112 : mci 112 = 11 := rfl
theorem mt_113 : mcc 113 = cX11_walk ∧ mnl 113 = 4 ∧ mrt 113 = (some .int) ∧ mci 113 = 11 := ⟨rfl, rfl, rfl, rfl⟩
theorem mcc_113 : mcc 113 = cX11_walk := rfl
theorem mci_113 : mci 113 = 11 := rfl
theorem mt_114 : mcc 114 = cX11_gone ∧ mnl 114 = 5 ∧ mrt 114 = (some .int) ∧ mci 114 = 11 := ⟨rfl, rfl, rfl, rfl⟩
theorem mcc_114 : mcc 114 = cX11_gone := rfl
theorem mci_114 : mci 114 = 11 := rfl
theorem mt_115 : mcc 115 = cX11_markTold ∧ mnl 115 = 4 ∧ mrt 115 = (some .int) ∧ mci 115 = 11 := ⟨rfl, rfl, rfl, rfl⟩
theorem mcc_115 : mcc 115 = cX11_markTold := rfl
theorem mci_115 : mci 115 = 11 := rfl
theorem mt_116 : mcc 116 = cX11_at ∧ mnl 116 = 3 ∧ mrt 116 = (some .int) ∧ mci 116 = 11 := ⟨rfl, rfl, rfl, rfl⟩
theorem mcc_116 : mcc 116 = cX11_at := rfl
theorem mci_116 : mci 116 = 11 := rfl
theorem mt_117 : mcc 117 = cX11_sight ∧ mnl 117 = 3 ∧ mrt 117 = (some .int) ∧ mci 117 = 11 := ⟨rfl, rfl, rfl, rfl⟩
theorem mcc_117 : mcc 117 = cX11_sight := rfl
theorem mci_117 : mci 117 = 11 := rfl
theorem mt_118 : mcc 118 = cX11_sees ∧ mnl 118 = 3 ∧ mrt 118 = (some .long) ∧ mci 118 = 11 := ⟨rfl, rfl, rfl, rfl⟩
theorem mcc_118 : mcc 118 = cX11_sees := rfl
theorem mci_118 : mci 118 = 11 := rfl
theorem mt_119 : mcc 119 = cX11_view ∧ mnl 119 = 3 ∧ mrt 119 = (some .long) ∧ mci 119 = 11 := ⟨rfl, rfl, rfl, rfl⟩
theorem mcc_119 : mcc 119 = cX11_view := rfl
theorem mci_119 : mci 119 = 11 := rfl
theorem mt_120 : mcc 120 = cX11_feed ∧ mnl 120 = 4 ∧ mrt 120 = (some .int) ∧ mci 120 = 11 := ⟨rfl, rfl, rfl, rfl⟩
theorem mcc_120 : mcc 120 = cX11_feed := rfl
theorem mci_120 : mci 120 = 11 := rfl
theorem mt_121 : mcc 121 = cX11_text ∧ mnl 121 = 1 ∧ mrt 121 = (some .int) ∧ mci 121 = 11 := ⟨rfl, rfl, rfl, rfl⟩
theorem mcc_121 : mcc 121 = cX11_text := rfl
theorem mci_121 : mci 121 = 11 := rfl
theorem mt_122 : mcc 122 = cX11_force ∧ mnl 122 = 4 ∧ mrt 122 = (some .int) ∧ mci 122 = 11 := ⟨rfl, rfl, rfl, rfl⟩
theorem mcc_122 : mcc 122 = cX11_force := rfl
theorem mci_122 : mci 122 = 11 := rfl
theorem mt_123 : mcc 123 = cX11_says ∧ mnl 123 = 5 ∧ mrt 123 = (some .long) ∧ mci 123 = 11 := ⟨rfl, rfl, rfl, rfl⟩
theorem mcc_123 : mcc 123 = cX11_says := rfl
theorem mci_123 : mci 123 = 11 := rfl
theorem mt_124 : mcc 124 = cX11_breaches ∧ mnl 124 = 3 ∧ mrt 124 = (some .int) ∧ mci 124 = 11 := ⟨rfl, rfl, rfl, rfl⟩
theorem mcc_124 : mcc 124 = cX11_breaches := rfl
theorem mci_124 : mci 124 = 11 := rfl
theorem mt_125 : mcc 125 = cX11_astray ∧ mnl 125 = 2 ∧ mrt 125 = (some .int) ∧ mci 125 = 11 := ⟨rfl, rfl, rfl, rfl⟩
theorem mcc_125 : mcc 125 = cX11_astray := rfl
theorem mci_125 : mci 125 = 11 := rfl
theorem mt_126 : mcc 126 = cX11_permit ∧ mnl 126 = 6 ∧ mrt 126 = (some .int) ∧ mci 126 = 11 := ⟨rfl, rfl, rfl, rfl⟩
theorem mcc_126 : mcc 126 = cX11_permit := rfl
theorem mci_126 : mci 126 = 11 := rfl
theorem mt_127 : mcc 127 = cX11_may ∧ mnl 127 = 4 ∧ mrt 127 = (some .int) ∧ mci 127 = 11 := ⟨rfl, rfl, rfl, rfl⟩
theorem mcc_127 : mcc 127 = cX11_may := rfl
theorem mci_127 : mci 127 = 11 := rfl
theorem mt_128 : mcc 128 = cX11_doing ∧ mnl 128 = 4 ∧ mrt 128 = (some .int) ∧ mci 128 = 11 := ⟨rfl, rfl, rfl, rfl⟩
theorem mcc_128 : mcc 128 = cX11_doing := rfl
theorem mci_128 : mci 128 = 11 := rfl
theorem mt_129 : mcc 129 = cX11_report ∧ mnl 129 = 5 ∧ mrt 129 = (some .int) ∧ mci 129 = 11 := ⟨rfl, rfl, rfl, rfl⟩
theorem mcc_129 : mcc 129 = cX11_report := rfl
theorem mci_129 : mci 129 = 11 := rfl
theorem mt_130 : mcc 130 = cX11_takeBack ∧ mnl 130 = 2 ∧ mrt 130 = (some .int) ∧ mci 130 = 11 := ⟨rfl, rfl, rfl, rfl⟩
theorem mcc_130 : mcc 130 = cX11_takeBack := rfl
theorem mci_130 : mci 130 = 11 := rfl
theorem mt_131 : mcc 131 = cX11_lets ∧ mnl 131 = 3 ∧ mrt 131 = (some .int) ∧ mci 131 = 11 := ⟨rfl, rfl, rfl, rfl⟩
theorem mcc_131 : mcc 131 = cX11_lets := rfl
theorem mci_131 : mci 131 = 11 := rfl
theorem mt_132 : mcc 132 = cX11_left ∧ mnl 132 = 1 ∧ mrt 132 = (some .int) ∧ mci 132 = 11 := ⟨rfl, rfl, rfl, rfl⟩
theorem mcc_132 : mcc 132 = cX11_left := rfl
theorem mci_132 : mci 132 = 11 := rfl
theorem mt_133 : mcc 133 = cX11_worst ∧ mnl 133 = 4 ∧ mrt 133 = (some .int) ∧ mci 133 = 11 := ⟨rfl, rfl, rfl, rfl⟩
theorem mcc_133 : mcc 133 = cX11_worst := rfl
theorem mci_133 : mci 133 = 11 := rfl
theorem mt_134 : mcc 134 = cX11_look ∧ mnl 134 = 2 ∧ mrt 134 = (some .int) ∧ mci 134 = 11 := ⟨rfl, rfl, rfl, rfl⟩
theorem mcc_134 : mcc 134 = cX11_look := rfl
theorem mci_134 : mci 134 = 11 := rfl
theorem mt_135 : mcc 135 = cX11_finding ∧ mnl 135 = 4 ∧ mrt 135 = (some .int) ∧ mci 135 = 11 := ⟨rfl, rfl, rfl, rfl⟩
theorem mcc_135 : mcc 135 = cX11_finding := rfl
theorem mci_135 : mci 135 = 11 := rfl
theorem mt_136 : mcc 136 = cX11_standing ∧ mnl 136 = 1 ∧ mrt 136 = (some .int) ∧ mci 136 = 11 := ⟨rfl, rfl, rfl, rfl⟩
theorem mcc_136 : mcc 136 = cX11_standing := rfl
theorem mci_136 : mci 136 = 11 := rfl
theorem mt_137 : mcc 137 = cX11_hold ∧ mnl 137 = 5 ∧ mrt 137 = (some .int) ∧ mci 137 = 11 := ⟨rfl, rfl, rfl, rfl⟩
theorem mcc_137 : mcc 137 = cX11_hold := rfl
theorem mci_137 : mci 137 = 11 := rfl
theorem mt_138 : mcc 138 = cX11_shots ∧ mnl 138 = 4 ∧ mrt 138 = (some .int) ∧ mci 138 = 11 := ⟨rfl, rfl, rfl, rfl⟩
theorem mcc_138 : mcc 138 = cX11_shots := rfl
theorem mci_138 : mci 138 = 11 := rfl
theorem mt_139 : mcc 139 = cX11_calm ∧ mnl 139 = 5 ∧ mrt 139 = (some .int) ∧ mci 139 = 11 := ⟨rfl, rfl, rfl, rfl⟩
theorem mcc_139 : mcc 139 = cX11_calm := rfl
theorem mci_139 : mci 139 = 11 := rfl
theorem mt_140 : mcc 140 = cX11_list ∧ mnl 140 = 2 ∧ mrt 140 = (some .int) ∧ mci 140 = 11 := ⟨rfl, rfl, rfl, rfl⟩
theorem mcc_140 : mcc 140 = cX11_list := rfl
theorem mci_140 : mci 140 = 11 := rfl
theorem mt_141 : mcc 141 = cX11_cover ∧ mnl 141 = 5 ∧ mrt 141 = (some .int) ∧ mci 141 = 11 := ⟨rfl, rfl, rfl, rfl⟩
theorem mcc_141 : mcc 141 = cX11_cover := rfl
theorem mci_141 : mci 141 = 11 := rfl
theorem mt_142 : mcc 142 = cX11_drawBack ∧ mnl 142 = 4 ∧ mrt 142 = (some .int) ∧ mci 142 = 11 := ⟨rfl, rfl, rfl, rfl⟩
theorem mcc_142 : mcc 142 = cX11_drawBack := rfl
theorem mci_142 : mci 142 = 11 := rfl
theorem mt_143 : mcc 143 = cX11_strength ∧ mnl 143 = 2 ∧ mrt 143 = (some .int) ∧ mci 143 = 11 := ⟨rfl, rfl, rfl, rfl⟩
theorem mcc_143 : mcc 143 = cX11_strength := rfl
theorem mci_143 : mci 143 = 11 := rfl
theorem mt_144 : mcc 144 = cX11_protest ∧ mnl 144 = 4 ∧ mrt 144 = (some .int) ∧ mci 144 = 11 := ⟨rfl, rfl, rfl, rfl⟩
theorem mcc_144 : mcc 144 = cX11_protest := rfl
theorem mci_144 : mci 144 = 11 := rfl
theorem mt_145 : mcc 145 = cX11_answer ∧ mnl 145 = 3 ∧ mrt 145 = (some .int) ∧ mci 145 = 11 := ⟨rfl, rfl, rfl, rfl⟩
theorem mcc_145 : mcc 145 = cX11_answer := rfl
theorem mci_145 : mci 145 = 11 := rfl
theorem mt_146 : mcc 146 = cX11_late ∧ mnl 146 = 2 ∧ mrt 146 = (some .int) ∧ mci 146 = 11 := ⟨rfl, rfl, rfl, rfl⟩
theorem mcc_146 : mcc 146 = cX11_late := rfl
theorem mci_146 : mci 146 = 11 := rfl
theorem mt_147 : mcc 147 = cX11_blame ∧ mnl 147 = 2 ∧ mrt 147 = (some .int) ∧ mci 147 = 11 := ⟨rfl, rfl, rfl, rfl⟩
theorem mcc_147 : mcc 147 = cX11_blame := rfl
theorem mci_147 : mci 147 = 11 := rfl
theorem mt_148 : mcc 148 = cX11_listed ∧ mnl 148 = 4 ∧ mrt 148 = (some .int) ∧ mci 148 = 11 := ⟨rfl, rfl, rfl, rfl⟩
theorem mcc_148 : mcc 148 = cX11_listed := rfl
theorem mci_148 : mci 148 = 11 := rfl
theorem mt_149 : mcc 149 = cX11_alone ∧ mnl 149 = 2 ∧ mrt 149 = (some .long) ∧ mci 149 = 11 := ⟨rfl, rfl, rfl, rfl⟩
theorem mcc_149 : mcc 149 = cX11_alone := rfl
theorem mci_149 : mci 149 = 11 := rfl
theorem mt_150 : mcc 150 = cX11_count ∧ mnl 150 = 2 ∧ mrt 150 = (some .int) ∧ mci 150 = 11 := ⟨rfl, rfl, rfl, rfl⟩
theorem mcc_150 : mcc 150 = cX11_count := rfl
theorem mci_150 : mci 150 = 11 := rfl
theorem mt_151 : mcc 151 = cX11_sheet ∧ mnl 151 = 4 ∧ mrt 151 = (some .int) ∧ mci 151 = 11 := ⟨rfl, rfl, rfl, rfl⟩
theorem mcc_151 : mcc 151 = cX11_sheet := rfl
theorem mci_151 : mci 151 = 11 := rfl
theorem mt_152 : mcc 152 = cX11_cell ∧ mnl 152 = 5 ∧ mrt 152 = (some .int) ∧ mci 152 = 11 := ⟨rfl, rfl, rfl, rfl⟩
theorem mcc_152 : mcc 152 = cX11_cell := rfl
theorem mci_152 : mci 152 = 11 := rfl
theorem mt_153 : mcc 153 = cX11_copy ∧ mnl 153 = 8 ∧ mrt 153 = (some .int) ∧ mci 153 = 11 := ⟨rfl, rfl, rfl, rfl⟩
theorem mcc_153 : mcc 153 = cX11_copy := rfl
theorem mci_153 : mci 153 = 11 := rfl
theorem mt_154 : mcc 154 = cX11_heights ∧ mnl 154 = 7 ∧ mrt 154 = (some .int) ∧ mci 154 = 11 := ⟨rfl, rfl, rfl, rfl⟩
theorem mcc_154 : mcc 154 = cX11_heights := rfl
theorem mci_154 : mci 154 = 11 := rfl
theorem mt_155 : mcc 155 = cX11_taken ∧ mnl 155 = 4 ∧ mrt 155 = (some .int) ∧ mci 155 = 11 := ⟨rfl, rfl, rfl, rfl⟩
theorem mcc_155 : mcc 155 = cX11_taken := rfl
theorem mci_155 : mci 155 = 11 := rfl
theorem mt_156 : mcc 156 = cX11_tellHeights ∧ mnl 156 = 9 ∧ mrt 156 = (some .int) ∧ mci 156 = 11 := ⟨rfl, rfl, rfl, rfl⟩
theorem mcc_156 : mcc 156 = cX11_tellHeights := rfl
theorem mci_156 : mci 156 = 11 := rfl
theorem mt_157 : mcc 157 = cX11_isWithin ∧ mnl 157 = 3 ∧ mrt 157 = (some .boolean) ∧ mci 157 = 11 := ⟨rfl, rfl, rfl, rfl⟩
theorem mcc_157 : mcc 157 = cX11_isWithin := rfl
theorem mci_157 : mci 157 = 11 := rfl
theorem mt_158 : mcc 158 = cX11_isCell ∧ mnl 158 = 1 ∧ mrt 158 = (some .boolean) ∧ mci 158 = 11 := ⟨rfl, rfl, rfl, rfl⟩
theorem mcc_158 : mcc 158 = cX11_isCell := rfl
theorem mci_158 : mci 158 = 11 := rfl
theorem mt_159 : mcc 159 = cX11_isHour ∧ mnl 159 = 1 ∧ mrt 159 = (some .boolean) ∧ mci 159 = 11 := ⟨rfl, rfl, rfl, rfl⟩
theorem mcc_159 : mcc 159 = cX11_isHour := rfl
theorem mci_159 : mci 159 = 11 := rfl
theorem mt_160 : mcc 160 = cX11_isSide ∧ mnl 160 = 1 ∧ mrt 160 = (some .boolean) ∧ mci 160 = 11 := ⟨rfl, rfl, rfl, rfl⟩
theorem mcc_160 : mcc 160 = cX11_isSide := rfl
theorem mci_160 : mci 160 = 11 := rfl
theorem mt_161 : mcc 161 = cX11_isArmy ∧ mnl 161 = 1 ∧ mrt 161 = (some .boolean) ∧ mci 161 = 11 := ⟨rfl, rfl, rfl, rfl⟩
theorem mcc_161 : mcc 161 = cX11_isArmy := rfl
theorem mci_161 : mci 161 = 11 := rfl
theorem mt_162 : mcc 162 = cX11_isBit ∧ mnl 162 = 1 ∧ mrt 162 = (some .boolean) ∧ mci 162 = 11 := ⟨rfl, rfl, rfl, rfl⟩
theorem mcc_162 : mcc 162 = cX11_isBit := rfl
theorem mci_162 : mci 162 = 11 := rfl
theorem mt_163 : mcc 163 = cX11_isKind ∧ mnl 163 = 1 ∧ mrt 163 = (some .boolean) ∧ mci 163 = 11 := ⟨rfl, rfl, rfl, rfl⟩
theorem mcc_163 : mcc 163 = cX11_isKind := rfl
theorem mci_163 : mci 163 = 11 := rfl
theorem mt_164 : mcc 164 = cX11_isSheet ∧ mnl 164 = 1 ∧ mrt 164 = (some .boolean) ∧ mci 164 = 11 := ⟨rfl, rfl, rfl, rfl⟩
theorem mcc_164 : mcc 164 = cX11_isSheet := rfl
theorem mci_164 : mci 164 = 11 := rfl
theorem mt_165 : mcc 165 = cX11_isSetOf ∧ mnl 165 = 2 ∧ mrt 165 = (some .boolean) ∧ mci 165 = 11 := ⟨rfl, rfl, rfl, rfl⟩
theorem mcc_165 : mcc 165 = cX11_isSetOf := rfl
theorem mci_165 : mci 165 = 11 := rfl
theorem mt_166 : mcc 166 = cX11_isIn ∧ mnl 166 = 2 ∧ mrt 166 = (some .boolean) ∧ mci 166 = 11 := ⟨rfl, rfl, rfl, rfl⟩
theorem mcc_166 : mcc 166 = cX11_isIn := rfl
theorem mci_166 : mci 166 = 11 := rfl
theorem mt_167 : mcc 167 = cX11_bit ∧ mnl 167 = 1 ∧ mrt 167 = (some .int) ∧ mci 167 = 11 := ⟨rfl, rfl, rfl, rfl⟩
theorem mcc_167 : mcc 167 = cX11_bit := rfl
theorem mci_167 : mci 167 = 11 := rfl
theorem mt_168 : mcc 168 = cX11_apartOf ∧ mnl 168 = 2 ∧ mrt 168 = (some .int) ∧ mci 168 = 11 := ⟨rfl, rfl, rfl, rfl⟩
theorem mcc_168 : mcc 168 = cX11_apartOf := rfl
theorem mci_168 : mci 168 = 11 := rfl
theorem mt_169 : mcc 169 = cX11_isNight ∧ mnl 169 = 2 ∧ mrt 169 = (some .boolean) ∧ mci 169 = 11 := ⟨rfl, rfl, rfl, rfl⟩
theorem mcc_169 : mcc 169 = cX11_isNight := rfl
theorem mci_169 : mci 169 = 11 := rfl
theorem mt_170 : mcc 170 = cX12_in ∧ mnl 170 = 4 ∧ mrt 170 = (some .boolean) ∧ mci 170 = 12 := ⟨rfl, rfl, rfl, rfl⟩
theorem mcc_170 : mcc 170 = cX12_in := rfl
theorem mci_170 : mci 170 = 12 := rfl
theorem mt_171 : mcc 171 = cX12_init ∧ mnl 171 = 2 ∧ mrt 171 = none ∧ mci 171 = 12 := ⟨rfl, rfl, rfl, rfl⟩
theorem mcc_171 : mcc 171 = cX12_init := rfl
theorem mci_171 : mci 171 = 12 := rfl
theorem mt_172 : mcc 172 = cX12_isCell ∧ mnl 172 = 2 ∧ mrt 172 = (some .boolean) ∧ mci 172 = 12 := ⟨rfl, rfl, rfl, rfl⟩
theorem mcc_172 : mcc 172 = cX12_isCell := rfl
theorem mci_172 : mci 172 = 12 := rfl
theorem mt_173 : mcc 173 = cX12_isHour ∧ mnl 173 = 2 ∧ mrt 173 = (some .boolean) ∧ mci 173 = 12 := ⟨rfl, rfl, rfl, rfl⟩
theorem mcc_173 : mcc 173 = cX12_isHour := rfl
theorem mci_173 : mci 173 = 12 := rfl
theorem mt_174 : mcc 174 = cX12_height ∧ mnl 174 = 4 ∧ mrt 174 = (some .int) ∧ mci 174 = 12 := ⟨rfl, rfl, rfl, rfl⟩
theorem mcc_174 : mcc 174 = cX12_height := rfl
theorem mci_174 : mci 174 = 12 := rfl
theorem mt_175 : mcc 175 = cX12_line ∧ mnl 175 = 4 ∧ mrt 175 = (some .int) ∧ mci 175 = 12 := ⟨rfl, rfl, rfl, rfl⟩
theorem mcc_175 : mcc 175 = cX12_line := rfl
theorem mci_175 : mci 175 = 12 := rfl
theorem mt_176 : mcc 176 = cX12_set ∧ mnl 176 = 4 ∧ mrt 176 = (some .int) ∧ mci 176 = 12 := ⟨rfl, rfl, rfl, rfl⟩
theorem mcc_176 : mcc 176 = cX12_set := rfl
theorem mci_176 : mci 176 = 12 := rfl
theorem mt_177 : mcc 177 = cX12_sideAt ∧ mnl 177 = 2 ∧ mrt 177 = (some .int) ∧ mci 177 = 12 := ⟨rfl, rfl, rfl, rfl⟩
theorem mcc_177 : mcc 177 = cX12_sideAt := rfl
theorem mci_177 : mci 177 = 12 := rfl
theorem mt_178 : mcc 178 = cX12_farAt ∧ mnl 178 = 2 ∧ mrt 178 = (some .int) ∧ mci 178 = 12 := ⟨rfl, rfl, rfl, rfl⟩
theorem mcc_178 : mcc 178 = cX12_farAt := rfl
theorem mci_178 : mci 178 = 12 := rfl
theorem mt_179 : mcc 179 = cX12_cellTold ∧ mnl 179 = 3 ∧ mrt 179 = (some .int) ∧ mci 179 = 12 := ⟨rfl, rfl, rfl, rfl⟩
theorem mcc_179 : mcc 179 = cX12_cellTold := rfl
theorem mci_179 : mci 179 = 12 := rfl
theorem mt_180 : mcc 180 = cX12_abs ∧ mnl 180 = 2 ∧ mrt 180 = (some .int) ∧ mci 180 = 12 := ⟨rfl, rfl, rfl, rfl⟩
theorem mcc_180 : mcc 180 = cX12_abs := rfl
theorem mci_180 : mci 180 = 12 := rfl
theorem mt_181 : mcc 181 = cX12_apart ∧ mnl 181 = 5 ∧ mrt 181 = (some .int) ∧ mci 181 = 12 := ⟨rfl, rfl, rfl, rfl⟩
theorem mcc_181 : mcc 181 = cX12_apart := rfl
theorem mci_181 : mci 181 = 12 := rfl
theorem mt_182 : mcc 182 = cX12_isNight ∧ mnl 182 = 2 ∧ mrt 182 = (some .boolean) ∧ mci 182 = 12 := ⟨rfl, rfl, rfl, rfl⟩
theorem mcc_182 : mcc 182 = cX12_isNight := rfl
theorem mci_182 : mci 182 = 12 := rfl
theorem mt_183 : mcc 183 = cX12_isMark ∧ mnl 183 = 2 ∧ mrt 183 = (some .boolean) ∧ mci 183 = 12 := ⟨rfl, rfl, rfl, rfl⟩
theorem mcc_183 : mcc 183 = cX12_isMark := rfl
theorem mci_183 : mci 183 = 12 := rfl
theorem mt_184 : mcc 184 = cX12_mark ∧ mnl 184 = 5 ∧ mrt 184 = (some .int) ∧ mci 184 = 12 := ⟨rfl, rfl, rfl, rfl⟩
theorem mcc_184 : mcc 184 = cX12_mark := rfl
theorem mci_184 : mci 184 = 12 := rfl
theorem mt_185 : mcc 185 = cX12_isUnder ∧ mnl 185 = 3 ∧ mrt 185 = (some .boolean) ∧ mci 185 = 12 := ⟨rfl, rfl, rfl, rfl⟩
theorem mcc_185 : mcc 185 = cX12_isUnder := rfl
theorem mci_185 : mci 185 = 12 := rfl
theorem mt_186 : mcc 186 = cX12_walk ∧ mnl 186 = 3 ∧ mrt 186 = (some .int) ∧ mci 186 = 12 := ⟨rfl, rfl, rfl, rfl⟩
theorem mcc_186 : mcc 186 = cX12_walk := rfl
theorem mci_186 : mci 186 = 12 := rfl
theorem mt_187 : mcc 187 = cX12_gone ∧ mnl 187 = 4 ∧ mrt 187 = (some .int) ∧ mci 187 = 12 := ⟨rfl, rfl, rfl, rfl⟩
theorem mcc_187 : mcc 187 = cX12_gone := rfl
theorem mci_187 : mci 187 = 12 := rfl
theorem mt_188 : mcc 188 = cX12_earOf ∧ mnl 188 = 2 ∧ mrt 188 = (some .int) ∧ mci 188 = 12 := ⟨rfl, rfl, rfl, rfl⟩
theorem mcc_188 : mcc 188 = cX12_earOf := rfl
theorem mci_188 : mci 188 = 12 := rfl
theorem mt_189 : mcc 189 = cX12_markTold ∧ mnl 189 = 3 ∧ mrt 189 = (some .int) ∧ mci 189 = 12 := ⟨rfl, rfl, rfl, rfl⟩
theorem mcc_189 : mcc 189 = cX12_markTold := rfl
theorem mci_189 : mci 189 = 12 := rfl
theorem mt_190 : mcc 190 = cX12_cellOf ∧ mnl 190 = 3 ∧ mrt 190 = (some .int) ∧ mci 190 = 12 := ⟨rfl, rfl, rfl, rfl⟩
theorem mcc_190 : mcc 190 = cX12_cellOf := rfl
theorem mci_190 : mci 190 = 12 := rfl
theorem mt_191 : mcc 191 = cX12_at ∧ mnl 191 = 3 ∧ mrt 191 = (some .int) ∧ mci 191 = 12 := ⟨rfl, rfl, rfl, rfl⟩
theorem mcc_191 : mcc 191 = cX12_at := rfl
theorem mci_191 : mci 191 = 12 := rfl
theorem mt_192 : mcc 192 = cX12_sightOf ∧ mnl 192 = 6 ∧ mrt 192 = (some .int) ∧ mci 192 = 12 := ⟨rfl, rfl, rfl, rfl⟩
theorem mcc_192 : mcc 192 = cX12_sightOf := rfl
theorem mci_192 : mci 192 = 12 := rfl
theorem mt_193 : mcc 193 = cX12_sight ∧ mnl 193 = 3 ∧ mrt 193 = (some .int) ∧ mci 193 = 12 := ⟨rfl, rfl, rfl, rfl⟩
theorem mcc_193 : mcc 193 = cX12_sight := rfl
theorem mci_193 : mci 193 = 12 := rfl
theorem mt_194 : mcc 194 = cX12_isClear ∧ mnl 194 = 8 ∧ mrt 194 = (some .boolean) ∧ mci 194 = 12 := ⟨rfl, rfl, rfl, rfl⟩
theorem mcc_194 : mcc 194 = cX12_isClear := rfl
theorem mci_194 : mci 194 = 12 := rfl
theorem mt_195 : mcc 195 = cX12_seenFrom ∧ mnl 195 = 8 ∧ mrt 195 = (some .long) ∧ mci 195 = 12 := ⟨rfl, rfl, rfl, rfl⟩
theorem mcc_195 : mcc 195 = cX12_seenFrom := rfl
theorem mci_195 : mci 195 = 12 := rfl
theorem mt_196 : mcc 196 = cX12_seenBy ∧ mnl 196 = 3 ∧ mrt 196 = (some .long) ∧ mci 196 = 12 := ⟨rfl, rfl, rfl, rfl⟩
theorem mcc_196 : mcc 196 = cX12_seenBy := rfl
theorem mci_196 : mci 196 = 12 := rfl
theorem mt_197 : mcc 197 = cX12_sees ∧ mnl 197 = 3 ∧ mrt 197 = (some .long) ∧ mci 197 = 12 := ⟨rfl, rfl, rfl, rfl⟩
theorem mcc_197 : mcc 197 = cX12_sees := rfl
theorem mci_197 : mci 197 = 12 := rfl
theorem mt_198 : mcc 198 = cX12_viewOf ∧ mnl 198 = 6 ∧ mrt 198 = (some .long) ∧ mci 198 = 12 := ⟨rfl, rfl, rfl, rfl⟩
theorem mcc_198 : mcc 198 = cX12_viewOf := rfl
theorem mci_198 : mci 198 = 12 := rfl
theorem mt_199 : mcc 199 = cX12_view ∧ mnl 199 = 3 ∧ mrt 199 = (some .long) ∧ mci 199 = 12 := ⟨rfl, rfl, rfl, rfl⟩
theorem mcc_199 : mcc 199 = cX12_view := rfl
theorem mci_199 : mci 199 = 12 := rfl
theorem mt_200 : mcc 200 = cX12_ruleZero ∧ mnl 200 = 1 ∧ mrt 200 = none ∧ mci 200 = 12 := ⟨rfl, rfl, rfl, rfl⟩
theorem mcc_200 : mcc 200 = cX12_ruleZero := rfl
theorem mci_200 : mci 200 = 12 := rfl
theorem mt_201 : mcc 201 = cX12_feed ∧ mnl 201 = 5 ∧ mrt 201 = (some .int) ∧ mci 201 = 12 := ⟨rfl, rfl, rfl, rfl⟩
theorem mcc_201 : mcc 201 = cX12_feed := rfl
theorem mci_201 : mci 201 = 12 := rfl
theorem mt_202 : mcc 202 = cX12_isLetter ∧ mnl 202 = 2 ∧ mrt 202 = (some .boolean) ∧ mci 202 = 12 := ⟨rfl, rfl, rfl, rfl⟩
theorem mcc_202 : mcc 202 = cX12_isLetter := rfl
theorem mci_202 : mci 202 = 12 := rfl
theorem mt_203 : mcc 203 = cX12_isDigit ∧ mnl 203 = 2 ∧ mrt 203 = (some .boolean) ∧ mci 203 = 12 := ⟨rfl, rfl, rfl, rfl⟩
theorem mcc_203 : mcc 203 = cX12_isDigit := rfl
theorem mci_203 : mci 203 = 12 := rfl
theorem mt_204 : mcc 204 = cX12_isWord ∧ mnl 204 = 6 ∧ mrt 204 = (some .boolean) ∧ mci 204 = 12 := ⟨rfl, rfl, rfl, rfl⟩
theorem mcc_204 : mcc 204 = cX12_isWord := rfl
theorem mci_204 : mci 204 = 12 := rfl
theorem mt_205 : mcc 205 = cX12_wordToken ∧ mnl 205 = 1 ∧ mrt 205 = none ∧ mci 205 = 12 := ⟨rfl, rfl, rfl, rfl⟩
theorem mcc_205 : mcc 205 = cX12_wordToken := rfl
theorem mci_205 : mci 205 = 12 := rfl
theorem mt_206 : mcc 206 = cX12_next ∧ mnl 206 = 2 ∧ mrt 206 = none ∧ mci 206 = 12 := ⟨rfl, rfl, rfl, rfl⟩
theorem mcc_206 : mcc 206 = cX12_next := rfl
theorem mci_206 : mci 206 = 12 := rfl
theorem mt_207 : mcc 207 = cX12_isKey ∧ mnl 207 = 2 ∧ mrt 207 = (some .boolean) ∧ mci 207 = 12 := ⟨rfl, rfl, rfl, rfl⟩
theorem mcc_207 : mcc 207 = cX12_isKey := rfl
theorem mci_207 : mci 207 = 12 := rfl
theorem mt_208 : mcc 208 = cX12_isSign ∧ mnl 208 = 2 ∧ mrt 208 = (some .boolean) ∧ mci 208 = 12 := ⟨rfl, rfl, rfl, rfl⟩
theorem mcc_208 : mcc 208 = cX12_isSign := rfl
theorem mci_208 : mci 208 = 12 := rfl
theorem mt_209 : mcc 209 = cX12_put ∧ mnl 209 = 2 ∧ mrt 209 = none ∧ mci 209 = 12 := ⟨rfl, rfl, rfl, rfl⟩
theorem mcc_209 : mcc 209 = cX12_put := rfl
theorem mci_209 : mci 209 = 12 := rfl
theorem mt_210 : mcc 210 = cX12_rank ∧ mnl 210 = 2 ∧ mrt 210 = (some .int) ∧ mci 210 = 12 := ⟨rfl, rfl, rfl, rfl⟩
theorem mcc_210 : mcc 210 = cX12_rank := rfl
theorem mci_210 : mci 210 = 12 := rfl
theorem mt_211 : mcc 211 = cX12_settle ∧ mnl 211 = 2 ∧ mrt 211 = none ∧ mci 211 = 12 := ⟨rfl, rfl, rfl, rfl⟩
theorem mcc_211 : mcc 211 = cX12_settle := rfl
theorem mci_211 : mci 211 = 12 := rfl
theorem mt_212 : mcc 212 = cX12_hold ∧ mnl 212 = 2 ∧ mrt 212 = none ∧ mci 212 = 12 := ⟨rfl, rfl, rfl, rfl⟩
theorem mcc_212 : mcc 212 = cX12_hold := rfl
theorem mci_212 : mci 212 = 12 := rfl
theorem mt_213 : mcc 213 = cX12_ahead ∧ mnl 213 = 2 ∧ mrt 213 = (some .boolean) ∧ mci 213 = 12 := ⟨rfl, rfl, rfl, rfl⟩
theorem mcc_213 : mcc 213 = cX12_ahead := rfl
theorem mci_213 : mci 213 = 12 := rfl
theorem mt_214 : mcc 214 = cX12_signOf ∧ mnl 214 = 1 ∧ mrt 214 = (some .int) ∧ mci 214 = 12 := ⟨rfl, rfl, rfl, rfl⟩
theorem mcc_214 : mcc 214 = cX12_signOf := rfl
theorem mci_214 : mci 214 = 12 := rfl
theorem mt_215 : mcc 215 = cX12_part ∧ mnl 215 = 4 ∧ mrt 215 = (some .boolean) ∧ mci 215 = 12 := ⟨rfl, rfl, rfl, rfl⟩
theorem mcc_215 : mcc 215 = cX12_part := rfl
theorem mci_215 : mci 215 = 12 := rfl
theorem mt_216 : mcc 216 = cX12_isText ∧ mnl 216 = 2 ∧ mrt 216 = (some .boolean) ∧ mci 216 = 12 := ⟨rfl, rfl, rfl, rfl⟩
theorem mcc_216 : mcc 216 = cX12_isText := rfl
theorem mci_216 : mci 216 = 12 := rfl
theorem mt_217 : mcc 217 = cX12_text ∧ mnl 217 = 3 ∧ mrt 217 = (some .int) ∧ mci 217 = 12 := ⟨rfl, rfl, rfl, rfl⟩
theorem mcc_217 : mcc 217 = cX12_text := rfl
theorem mci_217 : mci 217 = 12 := rfl
theorem mt_218 : mcc 218 = cX12_force ∧ mnl 218 = 4 ∧ mrt 218 = (some .int) ∧ mci 218 = 12 := ⟨rfl, rfl, rfl, rfl⟩
theorem mcc_218 : mcc 218 = cX12_force := rfl
theorem mci_218 : mci 218 = 12 := rfl
theorem mt_219 : mcc 219 = cX12_both ∧ mnl 219 = 4 ∧ mrt 219 = (some .int) ∧ mci 219 = 12 := ⟨rfl, rfl, rfl, rfl⟩
theorem mcc_219 : mcc 219 = cX12_both := rfl
theorem mci_219 : mci 219 = 12 := rfl
theorem mt_220 : mcc 220 = cX12_work ∧ mnl 220 = 7 ∧ mrt 220 = (some .int) ∧ mci 220 = 12 := ⟨rfl, rfl, rfl, rfl⟩
theorem mcc_220 : mcc 220 = cX12_work := rfl
theorem mci_220 : mci 220 = 12 := rfl
theorem mt_221 : mcc 221 = cX12_ask ∧ mnl 221 = 6 ∧ mrt 221 = (some .int) ∧ mci 221 = 12 := ⟨rfl, rfl, rfl, rfl⟩
theorem mcc_221 : mcc 221 = cX12_ask := rfl
theorem mci_221 : mci 221 = 12 := rfl
theorem mt_222 : mcc 222 = cX12_says ∧ mnl 222 = 5 ∧ mrt 222 = (some .long) ∧ mci 222 = 12 := ⟨rfl, rfl, rfl, rfl⟩
theorem mcc_222 : mcc 222 = cX12_says := rfl
theorem mci_222 : mci 222 = 12 := rfl
theorem mt_223 : mcc 223 = cX12_breaches ∧ mnl 223 = 7 ∧ mrt 223 = (some .int) ∧ mci 223 = 12 := ⟨rfl, rfl, rfl, rfl⟩
theorem mcc_223 : mcc 223 = cX12_breaches := rfl
theorem mci_223 : mci 223 = 12 := rfl
theorem mt_224 : mcc 224 = cX12_astray ∧ mnl 224 = 4 ∧ mrt 224 = (some .int) ∧ mci 224 = 12 := ⟨rfl, rfl, rfl, rfl⟩
theorem mcc_224 : mcc 224 = cX12_astray := rfl
theorem mci_224 : mci 224 = 12 := rfl
theorem mt_225 : mcc 225 = cX12_permit ∧ mnl 225 = 6 ∧ mrt 225 = (some .int) ∧ mci 225 = 12 := ⟨rfl, rfl, rfl, rfl⟩
theorem mcc_225 : mcc 225 = cX12_permit := rfl
theorem mci_225 : mci 225 = 12 := rfl
theorem mt_226 : mcc 226 = cX12_may ∧ mnl 226 = 5 ∧ mrt 226 = (some .int) ∧ mci 226 = 12 := ⟨rfl, rfl, rfl, rfl⟩
theorem mcc_226 : mcc 226 = cX12_may := rfl
theorem mci_226 : mci 226 = 12 := rfl
theorem mt_227 : mcc 227 = cX12_isDoing ∧ mnl 227 = 2 ∧ mrt 227 = (some .boolean) ∧ mci 227 = 12 := ⟨rfl, rfl, rfl, rfl⟩
theorem mcc_227 : mcc 227 = cX12_isDoing := rfl
theorem mci_227 : mci 227 = 12 := rfl
theorem mt_228 : mcc 228 = cX12_doing ∧ mnl 228 = 4 ∧ mrt 228 = (some .int) ∧ mci 228 = 12 := ⟨rfl, rfl, rfl, rfl⟩
theorem mcc_228 : mcc 228 = cX12_doing := rfl
theorem mci_228 : mci 228 = 12 := rfl
theorem mt_229 : mcc 229 = cX12_loud ∧ mnl 229 = 2 ∧ mrt 229 = (some .int) ∧ mci 229 = 12 := ⟨rfl, rfl, rfl, rfl⟩
theorem mcc_229 : mcc 229 = cX12_loud := rfl
theorem mci_229 : mci 229 = 12 := rfl
theorem mt_230 : mcc 230 = cX12_knows ∧ mnl 230 = 5 ∧ mrt 230 = (some .boolean) ∧ mci 230 = 12 := ⟨rfl, rfl, rfl, rfl⟩
theorem mcc_230 : mcc 230 = cX12_knows := rfl
theorem mci_230 : mci 230 = 12 := rfl
theorem mt_231 : mcc 231 = cX12_report ∧ mnl 231 = 5 ∧ mrt 231 = (some .int) ∧ mci 231 = 12 := ⟨rfl, rfl, rfl, rfl⟩
theorem mcc_231 : mcc 231 = cX12_report := rfl
theorem mci_231 : mci 231 = 12 := rfl
theorem mt_232 : mcc 232 = cX12_takeBack ∧ mnl 232 = 4 ∧ mrt 232 = (some .int) ∧ mci 232 = 12 := ⟨rfl, rfl, rfl, rfl⟩
theorem mcc_232 : mcc 232 = cX12_takeBack := rfl
theorem mci_232 : mci 232 = 12 := rfl
theorem mt_233 : mcc 233 = cX12_isLet ∧ mnl 233 = 3 ∧ mrt 233 = (some .boolean) ∧ mci 233 = 12 := ⟨rfl, rfl, rfl, rfl⟩
theorem mcc_233 : mcc 233 = cX12_isLet := rfl
theorem mci_233 : mci 233 = 12 := rfl
theorem mt_234 : mcc 234 = cX12_lets ∧ mnl 234 = 3 ∧ mrt 234 = (some .int) ∧ mci 234 = 12 := ⟨rfl, rfl, rfl, rfl⟩
theorem mcc_234 : mcc 234 = cX12_lets := rfl
theorem mci_234 : mci 234 = 12 := rfl
theorem mt_235 : mcc 235 = cX12_left ∧ mnl 235 = 5 ∧ mrt 235 = (some .int) ∧ mci 235 = 12 := ⟨rfl, rfl, rfl, rfl⟩
theorem mcc_235 : mcc 235 = cX12_left := rfl
theorem mci_235 : mci 235 = 12 := rfl
theorem mt_236 : mcc 236 = cX12_worstOf ∧ mnl 236 = 8 ∧ mrt 236 = (some .int) ∧ mci 236 = 12 := ⟨rfl, rfl, rfl, rfl⟩
theorem mcc_236 : mcc 236 = cX12_worstOf := rfl
theorem mci_236 : mci 236 = 12 := rfl
theorem mt_237 : mcc 237 = cX12_worst ∧ mnl 237 = 4 ∧ mrt 237 = (some .int) ∧ mci 237 = 12 := ⟨rfl, rfl, rfl, rfl⟩
theorem mcc_237 : mcc 237 = cX12_worst := rfl
theorem mci_237 : mci 237 = 12 := rfl
theorem mt_238 : mcc 238 = cX12_look ∧ mnl 238 = 7 ∧ mrt 238 = (some .int) ∧ mci 238 = 12 := ⟨rfl, rfl, rfl, rfl⟩
theorem mcc_238 : mcc 238 = cX12_look := rfl
theorem mci_238 : mci 238 = 12 := rfl
theorem mt_239 : mcc 239 = cX12_finding ∧ mnl 239 = 4 ∧ mrt 239 = (some .int) ∧ mci 239 = 12 := ⟨rfl, rfl, rfl, rfl⟩
theorem mcc_239 : mcc 239 = cX12_finding := rfl
theorem mci_239 : mci 239 = 12 := rfl
theorem mt_240 : mcc 240 = cX12_standing ∧ mnl 240 = 5 ∧ mrt 240 = (some .int) ∧ mci 240 = 12 := ⟨rfl, rfl, rfl, rfl⟩
theorem mcc_240 : mcc 240 = cX12_standing := rfl
theorem mci_240 : mci 240 = 12 := rfl
theorem mt_241 : mcc 241 = cX12_hold_ ∧ mnl 241 = 4 ∧ mrt 241 = (some .int) ∧ mci 241 = 12 := ⟨rfl, rfl, rfl, rfl⟩
theorem mcc_241 : mcc 241 = cX12_hold_ := rfl
theorem mci_241 : mci 241 = 12 := rfl
theorem mt_242 : mcc 242 = cX12_shooting ∧ mnl 242 = 11 ∧ mrt 242 = (some .int) ∧ mci 242 = 12 := ⟨rfl, rfl, rfl, rfl⟩
theorem mcc_242 : mcc 242 = cX12_shooting := rfl
theorem mci_242 : mci 242 = 12 := rfl
theorem mt_243 : mcc 243 = cX12_canShoot ∧ mnl 243 = 3 ∧ mrt 243 = (some .boolean) ∧ mci 243 = 12 := ⟨rfl, rfl, rfl, rfl⟩
theorem mcc_243 : mcc 243 = cX12_canShoot := rfl
theorem mci_243 : mci 243 = 12 := rfl
theorem mt_244 : mcc 244 = cX12_shots ∧ mnl 244 = 4 ∧ mrt 244 = (some .int) ∧ mci 244 = 12 := ⟨rfl, rfl, rfl, rfl⟩
theorem mcc_244 : mcc 244 = cX12_shots := rfl
theorem mci_244 : mci 244 = 12 := rfl
theorem mt_245 : mcc 245 = cX12_ones ∧ mnl 245 = 4 ∧ mrt 245 = (some .int) ∧ mci 245 = 12 := ⟨rfl, rfl, rfl, rfl⟩
theorem mcc_245 : mcc 245 = cX12_ones := rfl
theorem mci_245 : mci 245 = 12 := rfl
theorem mt_246 : mcc 246 = cX12_calm ∧ mnl 246 = 7 ∧ mrt 246 = (some .int) ∧ mci 246 = 12 := ⟨rfl, rfl, rfl, rfl⟩
theorem mcc_246 : mcc 246 = cX12_calm := rfl
theorem mci_246 : mci 246 = 12 := rfl
theorem mt_247 : mcc 247 = cX12_list ∧ mnl 247 = 2 ∧ mrt 247 = (some .int) ∧ mci 247 = 12 := ⟨rfl, rfl, rfl, rfl⟩
theorem mcc_247 : mcc 247 = cX12_list := rfl
theorem mci_247 : mci 247 = 12 := rfl
theorem mt_248 : mcc 248 = cX12_bitsOf ∧ mnl 248 = 6 ∧ mrt 248 = (some .int) ∧ mci 248 = 12 := ⟨rfl, rfl, rfl, rfl⟩
theorem mcc_248 : mcc 248 = cX12_bitsOf := rfl
theorem mci_248 : mci 248 = 12 := rfl
theorem mt_249 : mcc 249 = cX12_coveredBy ∧ mnl 249 = 5 ∧ mrt 249 = (some .int) ∧ mci 249 = 12 := ⟨rfl, rfl, rfl, rfl⟩
theorem mcc_249 : mcc 249 = cX12_coveredBy := rfl
theorem mci_249 : mci 249 = 12 := rfl
theorem mt_250 : mcc 250 = cX12_cover ∧ mnl 250 = 6 ∧ mrt 250 = (some .int) ∧ mci 250 = 12 := ⟨rfl, rfl, rfl, rfl⟩
theorem mcc_250 : mcc 250 = cX12_cover := rfl
theorem mci_250 : mci 250 = 12 := rfl
theorem mt_251 : mcc 251 = cX12_strengthOf ∧ mnl 251 = 5 ∧ mrt 251 = (some .int) ∧ mci 251 = 12 := ⟨rfl, rfl, rfl, rfl⟩
theorem mcc_251 : mcc 251 = cX12_strengthOf := rfl
theorem mci_251 : mci 251 = 12 := rfl
theorem mt_252 : mcc 252 = cX12_strength ∧ mnl 252 = 2 ∧ mrt 252 = (some .int) ∧ mci 252 = 12 := ⟨rfl, rfl, rfl, rfl⟩
theorem mcc_252 : mcc 252 = cX12_strength := rfl
theorem mci_252 : mci 252 = 12 := rfl
theorem mt_253 : mcc 253 = cX12_marksOf ∧ mnl 253 = 4 ∧ mrt 253 = (some .int) ∧ mci 253 = 12 := ⟨rfl, rfl, rfl, rfl⟩
theorem mcc_253 : mcc 253 = cX12_marksOf := rfl
theorem mci_253 : mci 253 = 12 := rfl
theorem mt_254 : mcc 254 = cX12_drawBack ∧ mnl 254 = 9 ∧ mrt 254 = (some .int) ∧ mci 254 = 12 := ⟨rfl, rfl, rfl, rfl⟩
theorem mcc_254 : mcc 254 = cX12_drawBack := rfl
theorem mci_254 : mci 254 = 12 := rfl
theorem mt_255 : mcc 255 = cX12_protest ∧ mnl 255 = 4 ∧ mrt 255 = (some .int) ∧ mci 255 = 12 := ⟨rfl, rfl, rfl, rfl⟩
theorem mcc_255 : mcc 255 = cX12_protest := rfl
theorem mci_255 : mci 255 = 12 := rfl
theorem mt_256 : mcc 256 = cX12_answer ∧ mnl 256 = 3 ∧ mrt 256 = (some .int) ∧ mci 256 = 12 := ⟨rfl, rfl, rfl, rfl⟩
theorem mcc_256 : mcc 256 = cX12_answer := rfl
theorem mci_256 : mci 256 = 12 := rfl
theorem mt_257 : mcc 257 = cX12_late ∧ mnl 257 = 4 ∧ mrt 257 = (some .int) ∧ mci 257 = 12 := ⟨rfl, rfl, rfl, rfl⟩
theorem mcc_257 : mcc 257 = cX12_late := rfl
theorem mci_257 : mci 257 = 12 := rfl
theorem mt_258 : mcc 258 = cX12_blame ∧ mnl 258 = 3 ∧ mrt 258 = (some .int) ∧ mci 258 = 12 := ⟨rfl, rfl, rfl, rfl⟩
theorem mcc_258 : mcc 258 = cX12_blame := rfl
theorem mci_258 : mci 258 = 12 := rfl
theorem mt_259 : mcc 259 = cX12_listed ∧ mnl 259 = 5 ∧ mrt 259 = (some .int) ∧ mci 259 = 12 := ⟨rfl, rfl, rfl, rfl⟩
theorem mcc_259 : mcc 259 = cX12_listed := rfl
theorem mci_259 : mci 259 = 12 := rfl
theorem mt_260 : mcc 260 = cX12_alone ∧ mnl 260 = 2 ∧ mrt 260 = (some .long) ∧ mci 260 = 12 := ⟨rfl, rfl, rfl, rfl⟩
theorem mcc_260 : mcc 260 = cX12_alone := rfl
theorem mci_260 : mci 260 = 12 := rfl
theorem mt_261 : mcc 261 = cX12_count ∧ mnl 261 = 2 ∧ mrt 261 = (some .int) ∧ mci 261 = 12 := ⟨rfl, rfl, rfl, rfl⟩
theorem mcc_261 : mcc 261 = cX12_count := rfl
theorem mci_261 : mci 261 = 12 := rfl
theorem mt_262 : mcc 262 = cX12_isSheet ∧ mnl 262 = 2 ∧ mrt 262 = (some .boolean) ∧ mci 262 = 12 := ⟨rfl, rfl, rfl, rfl⟩
theorem mcc_262 : mcc 262 = cX12_isSheet := rfl
theorem mci_262 : mci 262 = 12 := rfl
theorem mt_263 : mcc 263 = cX12_sheet ∧ mnl 263 = 5 ∧ mrt 263 = (some .int) ∧ mci 263 = 12 := ⟨rfl, rfl, rfl, rfl⟩
theorem mcc_263 : mcc 263 = cX12_sheet := rfl
theorem mci_263 : mci 263 = 12 := rfl
theorem mt_264 : mcc 264 = cX12_cell ∧ mnl 264 = 4 ∧ mrt 264 = (some .int) ∧ mci 264 = 12 := ⟨rfl, rfl, rfl, rfl⟩
theorem mcc_264 : mcc 264 = cX12_cell := rfl
theorem mci_264 : mci 264 = 12 := rfl
theorem mt_265 : mcc 265 = cX12_copy ∧ mnl 265 = 7 ∧ mrt 265 = (some .int) ∧ mci 265 = 12 := ⟨rfl, rfl, rfl, rfl⟩
theorem mcc_265 : mcc 265 = cX12_copy := rfl
theorem mci_265 : mci 265 = 12 := rfl
theorem mt_266 : mcc 266 = cX12_heights ∧ mnl 266 = 8 ∧ mrt 266 = (some .int) ∧ mci 266 = 12 := ⟨rfl, rfl, rfl, rfl⟩
theorem mcc_266 : mcc 266 = cX12_heights := rfl
theorem mci_266 : mci 266 = 12 := rfl
theorem mt_267 : mcc 267 = cX12_taken ∧ mnl 267 = 3 ∧ mrt 267 = (some .int) ∧ mci 267 = 12 := ⟨rfl, rfl, rfl, rfl⟩
theorem mcc_267 : mcc 267 = cX12_taken := rfl
theorem mci_267 : mci 267 = 12 := rfl
theorem mt_268 : mcc 268 = cJ6_bitCount_0f7a4 ∧ mnl 268 = 1 ∧ mrt 268 = (some .int) ∧ mci 268 = 14 := ⟨rfl, rfl, rfl, rfl⟩
theorem mcc_268 : mcc 268 = cJ6_bitCount_0f7a4 := rfl
theorem mci_268 : mci 268 = 14 := rfl
theorem mt_269 : mcc 269 = cJ13_bitCount_95d88 ∧ mnl 269 = 2 ∧ mrt 269 = (some .int) ∧ mci 269 = 15 := ⟨rfl, rfl, rfl, rfl⟩
theorem mcc_269 : mcc 269 = cJ13_bitCount_95d88 := rfl
theorem mci_269 : mci 269 = 15 := rfl
theorem mt_270 : mcc 270 = cJ9_abs_0f7a4 ∧ mnl 270 = 1 ∧ mrt 270 = (some .int) ∧ mci 270 = 16 := ⟨rfl, rfl, rfl, rfl⟩
theorem mcc_270 : mcc 270 = cJ9_abs_0f7a4 := rfl
theorem mci_270 : mci 270 = 16 := rfl
theorem mt_271 : mcc 271 = cJ9_max_7cf53 ∧ mnl 271 = 2 ∧ mrt 271 = (some .int) ∧ mci 271 = 16 := ⟨rfl, rfl, rfl, rfl⟩
theorem mcc_271 : mcc 271 = cJ9_max_7cf53 := rfl
theorem mci_271 : mci 271 = 16 := rfl
theorem mt_272 : mcc 272 = cJ9_min_7cf53 ∧ mnl 272 = 2 ∧ mrt 272 = (some .int) ∧ mci 272 = 16 := ⟨rfl, rfl, rfl, rfl⟩
theorem mcc_272 : mcc 272 = cJ9_min_7cf53 := rfl
theorem mci_272 : mci 272 = 16 := rfl
theorem mt_273 : mcc 273 = cJ0_length_8abf5 ∧ mnl 273 = 1 ∧ mrt 273 = (some .int) ∧ mci 273 = 18 := ⟨rfl, rfl, rfl, rfl⟩
theorem mcc_273 : mcc 273 = cJ0_length_8abf5 := rfl
theorem mci_273 : mci 273 = 18 := rfl
theorem mt_274 : mcc 274 = cJ0_charAt_5068e ∧ mnl 274 = 2 ∧ mrt 274 = (some .char) ∧ mci 274 = 18 := ⟨rfl, rfl, rfl, rfl⟩
theorem mcc_274 : mcc 274 = cJ0_charAt_5068e := rfl
theorem mci_274 : mci 274 = 18 := rfl
theorem mt_275 : mcc 275 = cJ0_coder_7d493 ∧ mnl 275 = 1 ∧ mrt 275 = (some .byte) ∧ mci 275 = 18 := ⟨rfl, rfl, rfl, rfl⟩
theorem mcc_275 : mcc 275 = cJ0_coder_7d493 := rfl
theorem mci_275 : mci 275 = 18 := rfl
theorem mt_276 : mcc 276 = cJ0_isLatin1_aae02 ∧ mnl 276 = 1 ∧ mrt 276 = (some .boolean) ∧ mci 276 = 18 := ⟨rfl, rfl, rfl, rfl⟩
theorem mcc_276 : mcc 276 = cJ0_isLatin1_aae02 := rfl
theorem mci_276 : mci 276 = 18 := rfl
theorem mt_277 : mcc 277 = cJ0_checkIndex_df160 ∧ mnl 277 = 2 ∧ mrt 277 = none ∧ mci 277 = 18 := ⟨rfl, rfl, rfl, rfl⟩
theorem mcc_277 : mcc 277 = cJ0_checkIndex_df160 := rfl
theorem mci_277 : mci 277 = 18 := rfl
theorem mt_278 : mcc 278 = cJ1_charAt_3b067 ∧ mnl 278 = 2 ∧ mrt 278 = (some .char) ∧ mci 278 = 19 := ⟨rfl, rfl, rfl, rfl⟩
theorem mcc_278 : mcc 278 = cJ1_charAt_3b067 := rfl
theorem mci_278 : mci 278 = 19 := rfl
theorem mt_279 : mcc 279 = cJ2_getChar_3b067 ∧ mnl 279 = 2 ∧ mrt 279 = (some .char) ∧ mci 279 = 20 := ⟨rfl, rfl, rfl, rfl⟩
theorem mcc_279 : mcc 279 = cJ2_getChar_3b067 := rfl
theorem mci_279 : mci 279 = 20 := rfl
theorem mt_280 : mcc 280 = cJ2_length_9d52b ∧ mnl 280 = 1 ∧ mrt 280 = (some .int) ∧ mci 280 = 20 := ⟨rfl, rfl, rfl, rfl⟩
theorem mcc_280 : mcc 280 = cJ2_length_9d52b := rfl
theorem mci_280 : mci 280 = 20 := rfl
theorem mt_281 : mcc 281 = cJ2_charAt_3b067 ∧ mnl 281 = 2 ∧ mrt 281 = (some .char) ∧ mci 281 = 20 := ⟨rfl, rfl, rfl, rfl⟩
theorem mcc_281 : mcc 281 = cJ2_charAt_3b067 := rfl
theorem mci_281 : mci 281 = 20 := rfl
theorem mt_282 : mcc 282 = cJ2_checkIndex_2214a ∧ mnl 282 = 2 ∧ mrt 282 = none ∧ mci 282 = 20 := ⟨rfl, rfl, rfl, rfl⟩
theorem mcc_282 : mcc 282 = cJ2_checkIndex_2214a := rfl
theorem mci_282 : mci 282 = 20 := rfl
theorem mt_283 : mcc 283 = cJ7_fill_53178 ∧ mnl 283 = 4 ∧ mrt 283 = none ∧ mci 283 = 17 := ⟨rfl, rfl, rfl, rfl⟩
theorem mcc_283 : mcc 283 = cJ7_fill_53178 := rfl
theorem mci_283 : mci 283 = 17 := rfl
theorem mt_284 : mcc 284 = cJ3_checkIndex_8e157 ∧ mnl 284 = 3 ∧ mrt 284 = (some .int) ∧ mci 284 = 21 := ⟨rfl, rfl, rfl, rfl⟩
theorem mcc_284 : mcc 284 = cJ3_checkIndex_8e157 := rfl
theorem mci_284 : mci 284 = 21 := rfl
theorem mt_285 : mcc 285 = cL_law ∧ mnl 285 = 4 ∧ mrt 285 = (some .boolean) ∧ mci 285 = 13 := ⟨rfl, rfl, rfl, rfl⟩
theorem mcc_285 : mcc 285 = cL_law := rfl
theorem mci_285 : mci 285 = 13 := rfl
set_option maxRecDepth 100000 in
theorem mw_0 : Cond.code (my 0) (mcc 0) (mnl 0) (mrt 0) ∈ lw_tbl := tbK_in (k := 2) (List.mem_of_getElem? (i := 153) rfl)
set_option maxRecDepth 100000 in
theorem mw_1 : Cond.code (my 1) (mcc 1) (mnl 1) (mrt 1) ∈ lw_tbl := tbK_in (k := 4) (List.mem_of_getElem? (i := 126) rfl)
set_option maxRecDepth 100000 in
theorem mw_2 : Cond.code (my 2) (mcc 2) (mnl 2) (mrt 2) ∈ lw_tbl := tbK_in (k := 4) (List.mem_of_getElem? (i := 134) rfl)
set_option maxRecDepth 100000 in
theorem mw_3 : Cond.code (my 3) (mcc 3) (mnl 3) (mrt 3) ∈ lw_tbl := tbK_in (k := 4) (List.mem_of_getElem? (i := 220) rfl)
set_option maxRecDepth 100000 in
theorem mw_4 : Cond.code (my 4) (mcc 4) (mnl 4) (mrt 4) ∈ lw_tbl := tbK_in (k := 4) (List.mem_of_getElem? (i := 142) rfl)
set_option maxRecDepth 100000 in
theorem mw_5 : Cond.code (my 5) (mcc 5) (mnl 5) (mrt 5) ∈ lw_tbl := tbK_in (k := 4) (List.mem_of_getElem? (i := 157) rfl)
set_option maxRecDepth 100000 in
theorem mw_6 : Cond.code (my 6) (mcc 6) (mnl 6) (mrt 6) ∈ lw_tbl := tbK_in (k := 4) (List.mem_of_getElem? (i := 185) rfl)
set_option maxRecDepth 100000 in
theorem mw_7 : Cond.code (my 7) (mcc 7) (mnl 7) (mrt 7) ∈ lw_tbl := tbK_in (k := 4) (List.mem_of_getElem? (i := 199) rfl)
set_option maxRecDepth 100000 in
theorem mw_8 : Cond.code (my 8) (mcc 8) (mnl 8) (mrt 8) ∈ lw_tbl := tbK_in (k := 4) (List.mem_of_getElem? (i := 208) rfl)
set_option maxRecDepth 100000 in
theorem mw_9 : Cond.code (my 9) (mcc 9) (mnl 9) (mrt 9) ∈ lw_tbl := tbK_in (k := 4) (List.mem_of_getElem? (i := 228) rfl)
set_option maxRecDepth 100000 in
theorem mw_10 : Cond.code (my 10) (mcc 10) (mnl 10) (mrt 10) ∈ lw_tbl := tbK_in (k := 4) (List.mem_of_getElem? (i := 189) rfl)
set_option maxRecDepth 100000 in
theorem mw_11 : Cond.code (my 11) (mcc 11) (mnl 11) (mrt 11) ∈ lw_tbl := tbK_in (k := 4) (List.mem_of_getElem? (i := 161) rfl)
set_option maxRecDepth 100000 in
theorem mw_12 : Cond.code (my 12) (mcc 12) (mnl 12) (mrt 12) ∈ lw_tbl := tbK_in (k := 2) (List.mem_of_getElem? (i := 134) rfl)
set_option maxRecDepth 100000 in
theorem mw_13 : Cond.code (my 13) (mcc 13) (mnl 13) (mrt 13) ∈ lw_tbl := tbK_in (k := 4) (List.mem_of_getElem? (i := 44) rfl)
set_option maxRecDepth 100000 in
theorem mw_14 : Cond.code (my 14) (mcc 14) (mnl 14) (mrt 14) ∈ lw_tbl := tbK_in (k := 4) (List.mem_of_getElem? (i := 84) rfl)
set_option maxRecDepth 100000 in
theorem mw_15 : Cond.code (my 15) (mcc 15) (mnl 15) (mrt 15) ∈ lw_tbl := tbK_in (k := 4) (List.mem_of_getElem? (i := 89) rfl)
set_option maxRecDepth 100000 in
theorem mw_16 : Cond.code (my 16) (mcc 16) (mnl 16) (mrt 16) ∈ lw_tbl := tbK_in (k := 4) (List.mem_of_getElem? (i := 102) rfl)
set_option maxRecDepth 100000 in
theorem mw_17 : Cond.code (my 17) (mcc 17) (mnl 17) (mrt 17) ∈ lw_tbl := tbK_in (k := 4) (List.mem_of_getElem? (i := 49) rfl)
set_option maxRecDepth 100000 in
theorem mw_18 : Cond.code (my 18) (mcc 18) (mnl 18) (mrt 18) ∈ lw_tbl := tbK_in (k := 4) (List.mem_of_getElem? (i := 53) rfl)
set_option maxRecDepth 100000 in
theorem mw_19 : Cond.code (my 19) (mcc 19) (mnl 19) (mrt 19) ∈ lw_tbl := tbK_in (k := 4) (List.mem_of_getElem? (i := 58) rfl)
set_option maxRecDepth 100000 in
theorem mw_20 : Cond.code (my 20) (mcc 20) (mnl 20) (mrt 20) ∈ lw_tbl := tbK_in (k := 1) (List.mem_of_getElem? (i := 69) rfl)
set_option maxRecDepth 100000 in
theorem mw_21 : Cond.code (my 21) (mcc 21) (mnl 21) (mrt 21) ∈ lw_tbl := tbK_in (k := 3) (List.mem_of_getElem? (i := 173) rfl)
set_option maxRecDepth 100000 in
theorem mw_22 : Cond.code (my 22) (mcc 22) (mnl 22) (mrt 22) ∈ lw_tbl := tbK_in (k := 3) (List.mem_of_getElem? (i := 220) rfl)
set_option maxRecDepth 100000 in
theorem mw_23 : Cond.code (my 23) (mcc 23) (mnl 23) (mrt 23) ∈ lw_tbl := tbK_in (k := 3) (List.mem_of_getElem? (i := 158) rfl)
set_option maxRecDepth 100000 in
theorem mw_24 : Cond.code (my 24) (mcc 24) (mnl 24) (mrt 24) ∈ lw_tbl := tbK_in (k := 3) (List.mem_of_getElem? (i := 179) rfl)
set_option maxRecDepth 100000 in
theorem mw_25 : Cond.code (my 25) (mcc 25) (mnl 25) (mrt 25) ∈ lw_tbl := tbK_in (k := 3) (List.mem_of_getElem? (i := 201) rfl)
set_option maxRecDepth 100000 in
theorem mw_26 : Cond.code (my 26) (mcc 26) (mnl 26) (mrt 26) ∈ lw_tbl := tbK_in (k := 1) (List.mem_of_getElem? (i := 62) rfl)
set_option maxRecDepth 100000 in
theorem mw_27 : Cond.code (my 27) (mcc 27) (mnl 27) (mrt 27) ∈ lw_tbl := tbK_in (k := 3) (List.mem_of_getElem? (i := 154) rfl)
set_option maxRecDepth 100000 in
theorem mw_28 : Cond.code (my 28) (mcc 28) (mnl 28) (mrt 28) ∈ lw_tbl := tbK_in (k := 3) (List.mem_of_getElem? (i := 169) rfl)
set_option maxRecDepth 100000 in
theorem mw_29 : Cond.code (my 29) (mcc 29) (mnl 29) (mrt 29) ∈ lw_tbl := tbK_in (k := 5) (List.mem_of_getElem? (i := 0) rfl)
set_option maxRecDepth 100000 in
theorem mw_30 : Cond.code (my 30) (mcc 30) (mnl 30) (mrt 30) ∈ lw_tbl := tbK_in (k := 5) (List.mem_of_getElem? (i := 6) rfl)
set_option maxRecDepth 100000 in
theorem mw_31 : Cond.code (my 31) (mcc 31) (mnl 31) (mrt 31) ∈ lw_tbl := tbK_in (k := 3) (List.mem_of_getElem? (i := 209) rfl)
set_option maxRecDepth 100000 in
theorem mw_32 : Cond.code (my 32) (mcc 32) (mnl 32) (mrt 32) ∈ lw_tbl := tbK_in (k := 4) (List.mem_of_getElem? (i := 176) rfl)
set_option maxRecDepth 100000 in
theorem mw_33 : Cond.code (my 33) (mcc 33) (mnl 33) (mrt 33) ∈ lw_tbl := tbK_in (k := 3) (List.mem_of_getElem? (i := 232) rfl)
set_option maxRecDepth 100000 in
theorem mw_34 : Cond.code (my 34) (mcc 34) (mnl 34) (mrt 34) ∈ lw_tbl := tbK_in (k := 4) (List.mem_of_getElem? (i := 12) rfl)
set_option maxRecDepth 100000 in
theorem mw_35 : Cond.code (my 35) (mcc 35) (mnl 35) (mrt 35) ∈ lw_tbl := tbK_in (k := 4) (List.mem_of_getElem? (i := 167) rfl)
set_option maxRecDepth 100000 in
theorem mw_36 : Cond.code (my 36) (mcc 36) (mnl 36) (mrt 36) ∈ lw_tbl := tbK_in (k := 3) (List.mem_of_getElem? (i := 15) rfl)
set_option maxRecDepth 100000 in
theorem mw_37 : Cond.code (my 37) (mcc 37) (mnl 37) (mrt 37) ∈ lw_tbl := tbK_in (k := 4) (List.mem_of_getElem? (i := 110) rfl)
set_option maxRecDepth 100000 in
theorem mw_38 : Cond.code (my 38) (mcc 38) (mnl 38) (mrt 38) ∈ lw_tbl := tbK_in (k := 4) (List.mem_of_getElem? (i := 118) rfl)
set_option maxRecDepth 100000 in
theorem mw_39 : Cond.code (my 39) (mcc 39) (mnl 39) (mrt 39) ∈ lw_tbl := tbK_in (k := 5) (List.mem_of_getElem? (i := 127) rfl)
set_option maxRecDepth 100000 in
theorem mw_40 : Cond.code (my 40) (mcc 40) (mnl 40) (mrt 40) ∈ lw_tbl := tbK_in (k := 5) (List.mem_of_getElem? (i := 135) rfl)
set_option maxRecDepth 100000 in
theorem mw_41 : Cond.code (my 41) (mcc 41) (mnl 41) (mrt 41) ∈ lw_tbl := tbK_in (k := 5) (List.mem_of_getElem? (i := 140) rfl)
set_option maxRecDepth 100000 in
theorem mw_42 : Cond.code (my 42) (mcc 42) (mnl 42) (mrt 42) ∈ lw_tbl := tbK_in (k := 5) (List.mem_of_getElem? (i := 148) rfl)
set_option maxRecDepth 100000 in
theorem mw_43 : Cond.code (my 43) (mcc 43) (mnl 43) (mrt 43) ∈ lw_tbl := tbK_in (k := 5) (List.mem_of_getElem? (i := 156) rfl)
set_option maxRecDepth 100000 in
theorem mw_44 : Cond.code (my 44) (mcc 44) (mnl 44) (mrt 44) ∈ lw_tbl := tbK_in (k := 5) (List.mem_of_getElem? (i := 164) rfl)
set_option maxRecDepth 100000 in
theorem mw_45 : Cond.code (my 45) (mcc 45) (mnl 45) (mrt 45) ∈ lw_tbl := tbK_in (k := 2) (List.mem_of_getElem? (i := 222) rfl)
set_option maxRecDepth 100000 in
theorem mw_46 : Cond.code (my 46) (mcc 46) (mnl 46) (mrt 46) ∈ lw_tbl := tbK_in (k := 5) (List.mem_of_getElem? (i := 44) rfl)
set_option maxRecDepth 100000 in
theorem mw_47 : Cond.code (my 47) (mcc 47) (mnl 47) (mrt 47) ∈ lw_tbl := tbK_in (k := 5) (List.mem_of_getElem? (i := 52) rfl)
set_option maxRecDepth 100000 in
theorem mw_48 : Cond.code (my 48) (mcc 48) (mnl 48) (mrt 48) ∈ lw_tbl := tbK_in (k := 5) (List.mem_of_getElem? (i := 63) rfl)
set_option maxRecDepth 100000 in
theorem mw_49 : Cond.code (my 49) (mcc 49) (mnl 49) (mrt 49) ∈ lw_tbl := tbK_in (k := 5) (List.mem_of_getElem? (i := 56) rfl)
set_option maxRecDepth 100000 in
theorem mw_50 : Cond.code (my 50) (mcc 50) (mnl 50) (mrt 50) ∈ lw_tbl := tbK_in (k := 5) (List.mem_of_getElem? (i := 103) rfl)
set_option maxRecDepth 100000 in
theorem mw_51 : Cond.code (my 51) (mcc 51) (mnl 51) (mrt 51) ∈ lw_tbl := tbK_in (k := 5) (List.mem_of_getElem? (i := 80) rfl)
set_option maxRecDepth 100000 in
theorem mw_52 : Cond.code (my 52) (mcc 52) (mnl 52) (mrt 52) ∈ lw_tbl := tbK_in (k := 5) (List.mem_of_getElem? (i := 91) rfl)
set_option maxRecDepth 100000 in
theorem mw_53 : Cond.code (my 53) (mcc 53) (mnl 53) (mrt 53) ∈ lw_tbl := tbK_in (k := 5) (List.mem_of_getElem? (i := 85) rfl)
set_option maxRecDepth 100000 in
theorem mw_54 : Cond.code (my 54) (mcc 54) (mnl 54) (mrt 54) ∈ lw_tbl := tbK_in (k := 5) (List.mem_of_getElem? (i := 95) rfl)
set_option maxRecDepth 100000 in
theorem mw_55 : Cond.code (my 55) (mcc 55) (mnl 55) (mrt 55) ∈ lw_tbl := tbK_in (k := 5) (List.mem_of_getElem? (i := 99) rfl)
set_option maxRecDepth 100000 in
theorem mw_56 : Cond.code (my 56) (mcc 56) (mnl 56) (mrt 56) ∈ lw_tbl := tbK_in (k := 5) (List.mem_of_getElem? (i := 107) rfl)
set_option maxRecDepth 100000 in
theorem mw_57 : Cond.code (my 57) (mcc 57) (mnl 57) (mrt 57) ∈ lw_tbl := tbK_in (k := 5) (List.mem_of_getElem? (i := 112) rfl)
set_option maxRecDepth 100000 in
theorem mw_58 : Cond.code (my 58) (mcc 58) (mnl 58) (mrt 58) ∈ lw_tbl := tbK_in (k := 1) (List.mem_of_getElem? (i := 151) rfl)
set_option maxRecDepth 100000 in
theorem mw_59 : Cond.code (my 59) (mcc 59) (mnl 59) (mrt 59) ∈ lw_tbl := tbK_in (k := 2) (List.mem_of_getElem? (i := 99) rfl)
set_option maxRecDepth 100000 in
theorem mw_60 : Cond.code (my 60) (mcc 60) (mnl 60) (mrt 60) ∈ lw_tbl := tbK_in (k := 2) (List.mem_of_getElem? (i := 0) rfl)
set_option maxRecDepth 100000 in
theorem mw_61 : Cond.code (my 61) (mcc 61) (mnl 61) (mrt 61) ∈ lw_tbl := tbK_in (k := 2) (List.mem_of_getElem? (i := 5) rfl)
set_option maxRecDepth 100000 in
theorem mw_62 : Cond.code (my 62) (mcc 62) (mnl 62) (mrt 62) ∈ lw_tbl := tbK_in (k := 2) (List.mem_of_getElem? (i := 9) rfl)
set_option maxRecDepth 100000 in
theorem mw_63 : Cond.code (my 63) (mcc 63) (mnl 63) (mrt 63) ∈ lw_tbl := tbK_in (k := 2) (List.mem_of_getElem? (i := 19) rfl)
set_option maxRecDepth 100000 in
theorem mw_64 : Cond.code (my 64) (mcc 64) (mnl 64) (mrt 64) ∈ lw_tbl := tbK_in (k := 2) (List.mem_of_getElem? (i := 23) rfl)
set_option maxRecDepth 100000 in
theorem mw_65 : Cond.code (my 65) (mcc 65) (mnl 65) (mrt 65) ∈ lw_tbl := tbK_in (k := 2) (List.mem_of_getElem? (i := 28) rfl)
set_option maxRecDepth 100000 in
theorem mw_66 : Cond.code (my 66) (mcc 66) (mnl 66) (mrt 66) ∈ lw_tbl := tbK_in (k := 2) (List.mem_of_getElem? (i := 92) rfl)
set_option maxRecDepth 100000 in
theorem mw_67 : Cond.code (my 67) (mcc 67) (mnl 67) (mrt 67) ∈ lw_tbl := tbK_in (k := 2) (List.mem_of_getElem? (i := 12) rfl)
set_option maxRecDepth 100000 in
theorem mw_68 : Cond.code (my 68) (mcc 68) (mnl 68) (mrt 68) ∈ lw_tbl := tbK_in (k := 2) (List.mem_of_getElem? (i := 15) rfl)
set_option maxRecDepth 100000 in
theorem mw_69 : Cond.code (my 69) (mcc 69) (mnl 69) (mrt 69) ∈ lw_tbl := tbK_in (k := 2) (List.mem_of_getElem? (i := 44) rfl)
set_option maxRecDepth 100000 in
theorem mw_70 : Cond.code (my 70) (mcc 70) (mnl 70) (mrt 70) ∈ lw_tbl := tbK_in (k := 2) (List.mem_of_getElem? (i := 64) rfl)
set_option maxRecDepth 100000 in
theorem mw_71 : Cond.code (my 71) (mcc 71) (mnl 71) (mrt 71) ∈ lw_tbl := tbK_in (k := 2) (List.mem_of_getElem? (i := 68) rfl)
set_option maxRecDepth 100000 in
theorem mw_72 : Cond.code (my 72) (mcc 72) (mnl 72) (mrt 72) ∈ lw_tbl := tbK_in (k := 2) (List.mem_of_getElem? (i := 72) rfl)
set_option maxRecDepth 100000 in
theorem mw_73 : Cond.code (my 73) (mcc 73) (mnl 73) (mrt 73) ∈ lw_tbl := tbK_in (k := 2) (List.mem_of_getElem? (i := 76) rfl)
set_option maxRecDepth 100000 in
theorem mw_74 : Cond.code (my 74) (mcc 74) (mnl 74) (mrt 74) ∈ lw_tbl := tbK_in (k := 2) (List.mem_of_getElem? (i := 80) rfl)
set_option maxRecDepth 100000 in
theorem mw_75 : Cond.code (my 75) (mcc 75) (mnl 75) (mrt 75) ∈ lw_tbl := tbK_in (k := 2) (List.mem_of_getElem? (i := 84) rfl)
set_option maxRecDepth 100000 in
theorem mw_76 : Cond.code (my 76) (mcc 76) (mnl 76) (mrt 76) ∈ lw_tbl := tbK_in (k := 2) (List.mem_of_getElem? (i := 88) rfl)
set_option maxRecDepth 100000 in
theorem mw_77 : Cond.code (my 77) (mcc 77) (mnl 77) (mrt 77) ∈ lw_tbl := tbK_in (k := 2) (List.mem_of_getElem? (i := 52) rfl)
set_option maxRecDepth 100000 in
theorem mw_78 : Cond.code (my 78) (mcc 78) (mnl 78) (mrt 78) ∈ lw_tbl := tbK_in (k := 2) (List.mem_of_getElem? (i := 48) rfl)
set_option maxRecDepth 100000 in
theorem mw_79 : Cond.code (my 79) (mcc 79) (mnl 79) (mrt 79) ∈ lw_tbl := tbK_in (k := 2) (List.mem_of_getElem? (i := 56) rfl)
set_option maxRecDepth 100000 in
theorem mw_80 : Cond.code (my 80) (mcc 80) (mnl 80) (mrt 80) ∈ lw_tbl := tbK_in (k := 2) (List.mem_of_getElem? (i := 60) rfl)
set_option maxRecDepth 100000 in
theorem mw_81 : Cond.code (my 81) (mcc 81) (mnl 81) (mrt 81) ∈ lw_tbl := tbK_in (k := 2) (List.mem_of_getElem? (i := 96) rfl)
set_option maxRecDepth 100000 in
theorem mw_82 : Cond.code (my 82) (mcc 82) (mnl 82) (mrt 82) ∈ lw_tbl := tbK_in (k := 3) (List.mem_of_getElem? (i := 63) rfl)
set_option maxRecDepth 100000 in
theorem mw_83 : Cond.code (my 83) (mcc 83) (mnl 83) (mrt 83) ∈ lw_tbl := tbK_in (k := 5) (List.mem_of_getElem? (i := 195) rfl)
set_option maxRecDepth 100000 in
theorem mw_84 : Cond.code (my 84) (mcc 84) (mnl 84) (mrt 84) ∈ lw_tbl := tbK_in (k := 5) (List.mem_of_getElem? (i := 199) rfl)
set_option maxRecDepth 100000 in
theorem mw_85 : Cond.code (my 85) (mcc 85) (mnl 85) (mrt 85) ∈ lw_tbl := tbK_in (k := 5) (List.mem_of_getElem? (i := 212) rfl)
set_option maxRecDepth 100000 in
theorem mw_86 : Cond.code (my 86) (mcc 86) (mnl 86) (mrt 86) ∈ lw_tbl := tbK_in (k := 5) (List.mem_of_getElem? (i := 186) rfl)
set_option maxRecDepth 100000 in
theorem mw_87 : Cond.code (my 87) (mcc 87) (mnl 87) (mrt 87) ∈ lw_tbl := tbK_in (k := 5) (List.mem_of_getElem? (i := 204) rfl)
set_option maxRecDepth 100000 in
theorem mw_88 : Cond.code (my 88) (mcc 88) (mnl 88) (mrt 88) ∈ lw_tbl := tbK_in (k := 2) (List.mem_of_getElem? (i := 209) rfl)
set_option maxRecDepth 100000 in
theorem mw_89 : Cond.code (my 89) (mcc 89) (mnl 89) (mrt 89) ∈ lw_tbl := tbK_in (k := 5) (List.mem_of_getElem? (i := 11) rfl)
set_option maxRecDepth 100000 in
theorem mw_90 : Cond.code (my 90) (mcc 90) (mnl 90) (mrt 90) ∈ lw_tbl := tbK_in (k := 5) (List.mem_of_getElem? (i := 33) rfl)
set_option maxRecDepth 100000 in
theorem mw_91 : Cond.code (my 91) (mcc 91) (mnl 91) (mrt 91) ∈ lw_tbl := tbK_in (k := 5) (List.mem_of_getElem? (i := 15) rfl)
set_option maxRecDepth 100000 in
theorem mw_92 : Cond.code (my 92) (mcc 92) (mnl 92) (mrt 92) ∈ lw_tbl := tbK_in (k := 5) (List.mem_of_getElem? (i := 21) rfl)
set_option maxRecDepth 100000 in
theorem mw_93 : Cond.code (my 93) (mcc 93) (mnl 93) (mrt 93) ∈ lw_tbl := tbK_in (k := 1) (List.mem_of_getElem? (i := 143) rfl)
set_option maxRecDepth 100000 in
theorem mw_94 : Cond.code (my 94) (mcc 94) (mnl 94) (mrt 94) ∈ lw_tbl := tbK_in (k := 4) (List.mem_of_getElem? (i := 35) rfl)
set_option maxRecDepth 100000 in
theorem mw_95 : Cond.code (my 95) (mcc 95) (mnl 95) (mrt 95) ∈ lw_tbl := tbK_in (k := 4) (List.mem_of_getElem? (i := 21) rfl)
set_option maxRecDepth 100000 in
theorem mw_96 : Cond.code (my 96) (mcc 96) (mnl 96) (mrt 96) ∈ lw_tbl := tbK_in (k := 1) (List.mem_of_getElem? (i := 236) rfl)
set_option maxRecDepth 100000 in
theorem mw_97 : Cond.code (my 97) (mcc 97) (mnl 97) (mrt 97) ∈ lw_tbl := tbK_in (k := 4) (List.mem_of_getElem? (i := 68) rfl)
set_option maxRecDepth 100000 in
theorem mw_98 : Cond.code (my 98) (mcc 98) (mnl 98) (mrt 98) ∈ lw_tbl := tbK_in (k := 4) (List.mem_of_getElem? (i := 72) rfl)
set_option maxRecDepth 100000 in
theorem mw_99 : Cond.code (my 99) (mcc 99) (mnl 99) (mrt 99) ∈ lw_tbl := tbK_in (k := 4) (List.mem_of_getElem? (i := 76) rfl)
set_option maxRecDepth 100000 in
theorem mw_100 : Cond.code (my 100) (mcc 100) (mnl 100) (mrt 100) ∈ lw_tbl := tbK_in (k := 1) (List.mem_of_getElem? (i := 35) rfl)
set_option maxRecDepth 100000 in
theorem mw_101 : Cond.code (my 101) (mcc 101) (mnl 101) (mrt 101) ∈ lw_tbl := tbK_in (k := 3) (List.mem_of_getElem? (i := 128) rfl)
set_option maxRecDepth 100000 in
theorem mw_102 : Cond.code (my 102) (mcc 102) (mnl 102) (mrt 102) ∈ lw_tbl := tbK_in (k := 3) (List.mem_of_getElem? (i := 132) rfl)
set_option maxRecDepth 100000 in
theorem mw_103 : Cond.code (my 103) (mcc 103) (mnl 103) (mrt 103) ∈ lw_tbl := tbK_in (k := 3) (List.mem_of_getElem? (i := 136) rfl)
set_option maxRecDepth 100000 in
theorem mw_104 : Cond.code (my 104) (mcc 104) (mnl 104) (mrt 104) ∈ lw_tbl := tbK_in (k := 3) (List.mem_of_getElem? (i := 214) rfl)
set_option maxRecDepth 100000 in
theorem mw_105 : Cond.code (my 105) (mcc 105) (mnl 105) (mrt 105) ∈ lw_tbl := tbK_in (k := 4) (List.mem_of_getElem? (i := 1) rfl)
set_option maxRecDepth 100000 in
theorem mw_106 : Cond.code (my 106) (mcc 106) (mnl 106) (mrt 106) ∈ lw_tbl := tbK_in (k := 3) (List.mem_of_getElem? (i := 237) rfl)
set_option maxRecDepth 100000 in
theorem mw_107 : Cond.code (my 107) (mcc 107) (mnl 107) (mrt 107) ∈ lw_tbl := tbK_in (k := 1) (List.mem_of_getElem? (i := 27) rfl)
set_option maxRecDepth 100000 in
theorem mw_108 : Cond.code (my 108) (mcc 108) (mnl 108) (mrt 108) ∈ lw_tbl := tbK_in (k := 3) (List.mem_of_getElem? (i := 108) rfl)
set_option maxRecDepth 100000 in
theorem mw_109 : Cond.code (my 109) (mcc 109) (mnl 109) (mrt 109) ∈ lw_tbl := tbK_in (k := 3) (List.mem_of_getElem? (i := 116) rfl)
set_option maxRecDepth 100000 in
theorem mw_110 : Cond.code (my 110) (mcc 110) (mnl 110) (mrt 110) ∈ lw_tbl := tbK_in (k := 3) (List.mem_of_getElem? (i := 120) rfl)
set_option maxRecDepth 100000 in
theorem mw_111 : Cond.code (my 111) (mcc 111) (mnl 111) (mrt 111) ∈ lw_tbl := tbK_in (k := 3) (List.mem_of_getElem? (i := 124) rfl)
set_option maxRecDepth 100000 in
theorem mw_112 : Cond.code (my 112) (mcc 112) (mnl 112) (mrt 112) ∈ lw_tbl := tbK_in (k := 3) (List.mem_of_getElem? (i := 144) rfl)
set_option maxRecDepth 100000 in
theorem mw_113 : Cond.code (my 113) (mcc 113) (mnl 113) (mrt 113) ∈ lw_tbl := tbK_in (k := 3) (List.mem_of_getElem? (i := 165) rfl)
set_option maxRecDepth 100000 in
theorem mw_114 : Cond.code (my 114) (mcc 114) (mnl 114) (mrt 114) ∈ lw_tbl := tbK_in (k := 3) (List.mem_of_getElem? (i := 183) rfl)
set_option maxRecDepth 100000 in
theorem mw_115 : Cond.code (my 115) (mcc 115) (mnl 115) (mrt 115) ∈ lw_tbl := tbK_in (k := 3) (List.mem_of_getElem? (i := 190) rfl)
set_option maxRecDepth 100000 in
theorem mw_116 : Cond.code (my 116) (mcc 116) (mnl 116) (mrt 116) ∈ lw_tbl := tbK_in (k := 3) (List.mem_of_getElem? (i := 194) rfl)
set_option maxRecDepth 100000 in
theorem mw_117 : Cond.code (my 117) (mcc 117) (mnl 117) (mrt 117) ∈ lw_tbl := tbK_in (k := 3) (List.mem_of_getElem? (i := 205) rfl)
set_option maxRecDepth 100000 in
theorem mw_118 : Cond.code (my 118) (mcc 118) (mnl 118) (mrt 118) ∈ lw_tbl := tbK_in (k := 3) (List.mem_of_getElem? (i := 227) rfl)
set_option maxRecDepth 100000 in
theorem mw_119 : Cond.code (my 119) (mcc 119) (mnl 119) (mrt 119) ∈ lw_tbl := tbK_in (k := 4) (List.mem_of_getElem? (i := 8) rfl)
set_option maxRecDepth 100000 in
theorem mw_120 : Cond.code (my 120) (mcc 120) (mnl 120) (mrt 120) ∈ lw_tbl := tbK_in (k := 4) (List.mem_of_getElem? (i := 17) rfl)
set_option maxRecDepth 100000 in
theorem mw_121 : Cond.code (my 121) (mcc 121) (mnl 121) (mrt 121) ∈ lw_tbl := tbK_in (k := 4) (List.mem_of_getElem? (i := 26) rfl)
set_option maxRecDepth 100000 in
theorem mw_122 : Cond.code (my 122) (mcc 122) (mnl 122) (mrt 122) ∈ lw_tbl := tbK_in (k := 4) (List.mem_of_getElem? (i := 31) rfl)
set_option maxRecDepth 100000 in
theorem mw_123 : Cond.code (my 123) (mcc 123) (mnl 123) (mrt 123) ∈ lw_tbl := tbK_in (k := 4) (List.mem_of_getElem? (i := 40) rfl)
set_option maxRecDepth 100000 in
theorem mw_124 : Cond.code (my 124) (mcc 124) (mnl 124) (mrt 124) ∈ lw_tbl := tbK_in (k := 4) (List.mem_of_getElem? (i := 80) rfl)
set_option maxRecDepth 100000 in
theorem mw_125 : Cond.code (my 125) (mcc 125) (mnl 125) (mrt 125) ∈ lw_tbl := tbK_in (k := 4) (List.mem_of_getElem? (i := 98) rfl)
set_option maxRecDepth 100000 in
theorem mw_126 : Cond.code (my 126) (mcc 126) (mnl 126) (mrt 126) ∈ lw_tbl := tbK_in (k := 4) (List.mem_of_getElem? (i := 106) rfl)
set_option maxRecDepth 100000 in
theorem mw_127 : Cond.code (my 127) (mcc 127) (mnl 127) (mrt 127) ∈ lw_tbl := tbK_in (k := 4) (List.mem_of_getElem? (i := 114) rfl)
set_option maxRecDepth 100000 in
theorem mw_128 : Cond.code (my 128) (mcc 128) (mnl 128) (mrt 128) ∈ lw_tbl := tbK_in (k := 4) (List.mem_of_getElem? (i := 122) rfl)
set_option maxRecDepth 100000 in
theorem mw_129 : Cond.code (my 129) (mcc 129) (mnl 129) (mrt 129) ∈ lw_tbl := tbK_in (k := 4) (List.mem_of_getElem? (i := 130) rfl)
set_option maxRecDepth 100000 in
theorem mw_130 : Cond.code (my 130) (mcc 130) (mnl 130) (mrt 130) ∈ lw_tbl := tbK_in (k := 4) (List.mem_of_getElem? (i := 138) rfl)
set_option maxRecDepth 100000 in
theorem mw_131 : Cond.code (my 131) (mcc 131) (mnl 131) (mrt 131) ∈ lw_tbl := tbK_in (k := 4) (List.mem_of_getElem? (i := 153) rfl)
set_option maxRecDepth 100000 in
theorem mw_132 : Cond.code (my 132) (mcc 132) (mnl 132) (mrt 132) ∈ lw_tbl := tbK_in (k := 4) (List.mem_of_getElem? (i := 181) rfl)
set_option maxRecDepth 100000 in
theorem mw_133 : Cond.code (my 133) (mcc 133) (mnl 133) (mrt 133) ∈ lw_tbl := tbK_in (k := 4) (List.mem_of_getElem? (i := 195) rfl)
set_option maxRecDepth 100000 in
theorem mw_134 : Cond.code (my 134) (mcc 134) (mnl 134) (mrt 134) ∈ lw_tbl := tbK_in (k := 4) (List.mem_of_getElem? (i := 204) rfl)
set_option maxRecDepth 100000 in
theorem mw_135 : Cond.code (my 135) (mcc 135) (mnl 135) (mrt 135) ∈ lw_tbl := tbK_in (k := 4) (List.mem_of_getElem? (i := 213) rfl)
set_option maxRecDepth 100000 in
theorem mw_136 : Cond.code (my 136) (mcc 136) (mnl 136) (mrt 136) ∈ lw_tbl := tbK_in (k := 4) (List.mem_of_getElem? (i := 224) rfl)
set_option maxRecDepth 100000 in
theorem mw_137 : Cond.code (my 137) (mcc 137) (mnl 137) (mrt 137) ∈ lw_tbl := tbK_in (k := 4) (List.mem_of_getElem? (i := 232) rfl)
set_option maxRecDepth 100000 in
theorem mw_138 : Cond.code (my 138) (mcc 138) (mnl 138) (mrt 138) ∈ lw_tbl := tbK_in (k := 4) (List.mem_of_getElem? (i := 236) rfl)
set_option maxRecDepth 100000 in
theorem mw_139 : Cond.code (my 139) (mcc 139) (mnl 139) (mrt 139) ∈ lw_tbl := tbK_in (k := 5) (List.mem_of_getElem? (i := 28) rfl)
set_option maxRecDepth 100000 in
theorem mw_140 : Cond.code (my 140) (mcc 140) (mnl 140) (mrt 140) ∈ lw_tbl := tbK_in (k := 5) (List.mem_of_getElem? (i := 40) rfl)
set_option maxRecDepth 100000 in
theorem mw_141 : Cond.code (my 141) (mcc 141) (mnl 141) (mrt 141) ∈ lw_tbl := tbK_in (k := 5) (List.mem_of_getElem? (i := 48) rfl)
set_option maxRecDepth 100000 in
theorem mw_142 : Cond.code (my 142) (mcc 142) (mnl 142) (mrt 142) ∈ lw_tbl := tbK_in (k := 5) (List.mem_of_getElem? (i := 76) rfl)
set_option maxRecDepth 100000 in
theorem mw_143 : Cond.code (my 143) (mcc 143) (mnl 143) (mrt 143) ∈ lw_tbl := tbK_in (k := 5) (List.mem_of_getElem? (i := 117) rfl)
set_option maxRecDepth 100000 in
theorem mw_144 : Cond.code (my 144) (mcc 144) (mnl 144) (mrt 144) ∈ lw_tbl := tbK_in (k := 5) (List.mem_of_getElem? (i := 122) rfl)
set_option maxRecDepth 100000 in
theorem mw_145 : Cond.code (my 145) (mcc 145) (mnl 145) (mrt 145) ∈ lw_tbl := tbK_in (k := 5) (List.mem_of_getElem? (i := 131) rfl)
set_option maxRecDepth 100000 in
theorem mw_146 : Cond.code (my 146) (mcc 146) (mnl 146) (mrt 146) ∈ lw_tbl := tbK_in (k := 5) (List.mem_of_getElem? (i := 144) rfl)
set_option maxRecDepth 100000 in
theorem mw_147 : Cond.code (my 147) (mcc 147) (mnl 147) (mrt 147) ∈ lw_tbl := tbK_in (k := 5) (List.mem_of_getElem? (i := 152) rfl)
set_option maxRecDepth 100000 in
theorem mw_148 : Cond.code (my 148) (mcc 148) (mnl 148) (mrt 148) ∈ lw_tbl := tbK_in (k := 5) (List.mem_of_getElem? (i := 160) rfl)
set_option maxRecDepth 100000 in
theorem mw_149 : Cond.code (my 149) (mcc 149) (mnl 149) (mrt 149) ∈ lw_tbl := tbK_in (k := 5) (List.mem_of_getElem? (i := 170) rfl)
set_option maxRecDepth 100000 in
theorem mw_150 : Cond.code (my 150) (mcc 150) (mnl 150) (mrt 150) ∈ lw_tbl := tbK_in (k := 5) (List.mem_of_getElem? (i := 175) rfl)
set_option maxRecDepth 100000 in
theorem mw_151 : Cond.code (my 151) (mcc 151) (mnl 151) (mrt 151) ∈ lw_tbl := tbK_in (k := 5) (List.mem_of_getElem? (i := 179) rfl)
set_option maxRecDepth 100000 in
theorem mw_152 : Cond.code (my 152) (mcc 152) (mnl 152) (mrt 152) ∈ lw_tbl := tbK_in (k := 5) (List.mem_of_getElem? (i := 191) rfl)
set_option maxRecDepth 100000 in
theorem mw_153 : Cond.code (my 153) (mcc 153) (mnl 153) (mrt 153) ∈ lw_tbl := tbK_in (k := 5) (List.mem_of_getElem? (i := 208) rfl)
set_option maxRecDepth 100000 in
theorem mw_154 : Cond.code (my 154) (mcc 154) (mnl 154) (mrt 154) ∈ lw_tbl := tbK_in (k := 5) (List.mem_of_getElem? (i := 219) rfl)
set_option maxRecDepth 100000 in
theorem mw_155 : Cond.code (my 155) (mcc 155) (mnl 155) (mrt 155) ∈ lw_tbl := tbK_in (k := 5) (List.mem_of_getElem? (i := 227) rfl)
set_option maxRecDepth 100000 in
theorem mw_156 : Cond.code (my 156) (mcc 156) (mnl 156) (mrt 156) ∈ lw_tbl := tbK_in (k := 5) (List.mem_of_getElem? (i := 223) rfl)
set_option maxRecDepth 100000 in
theorem mw_157 : Cond.code (my 157) (mcc 157) (mnl 157) (mrt 157) ∈ lw_tbl := tbK_in (k := 2) (List.mem_of_getElem? (i := 102) rfl)
set_option maxRecDepth 100000 in
theorem mw_158 : Cond.code (my 158) (mcc 158) (mnl 158) (mrt 158) ∈ lw_tbl := tbK_in (k := 3) (List.mem_of_getElem? (i := 111) rfl)
set_option maxRecDepth 100000 in
theorem mw_159 : Cond.code (my 159) (mcc 159) (mnl 159) (mrt 159) ∈ lw_tbl := tbK_in (k := 3) (List.mem_of_getElem? (i := 197) rfl)
set_option maxRecDepth 100000 in
theorem mw_160 : Cond.code (my 160) (mcc 160) (mnl 160) (mrt 160) ∈ lw_tbl := tbK_in (k := 3) (List.mem_of_getElem? (i := 150) rfl)
set_option maxRecDepth 100000 in
theorem mw_161 : Cond.code (my 161) (mcc 161) (mnl 161) (mrt 161) ∈ lw_tbl := tbK_in (k := 4) (List.mem_of_getElem? (i := 61) rfl)
set_option maxRecDepth 100000 in
theorem mw_162 : Cond.code (my 162) (mcc 162) (mnl 162) (mrt 162) ∈ lw_tbl := tbK_in (k := 3) (List.mem_of_getElem? (i := 186) rfl)
set_option maxRecDepth 100000 in
theorem mw_163 : Cond.code (my 163) (mcc 163) (mnl 163) (mrt 163) ∈ lw_tbl := tbK_in (k := 3) (List.mem_of_getElem? (i := 147) rfl)
set_option maxRecDepth 100000 in
theorem mw_164 : Cond.code (my 164) (mcc 164) (mnl 164) (mrt 164) ∈ lw_tbl := tbK_in (k := 5) (List.mem_of_getElem? (i := 182) rfl)
set_option maxRecDepth 100000 in
theorem mw_165 : Cond.code (my 165) (mcc 165) (mnl 165) (mrt 165) ∈ lw_tbl := tbK_in (k := 4) (List.mem_of_getElem? (i := 216) rfl)
set_option maxRecDepth 100000 in
theorem mw_166 : Cond.code (my 166) (mcc 166) (mnl 166) (mrt 166) ∈ lw_tbl := tbK_in (k := 4) (List.mem_of_getElem? (i := 94) rfl)
set_option maxRecDepth 100000 in
theorem mw_167 : Cond.code (my 167) (mcc 167) (mnl 167) (mrt 167) ∈ lw_tbl := tbK_in (k := 3) (List.mem_of_getElem? (i := 140) rfl)
set_option maxRecDepth 100000 in
theorem mw_168 : Cond.code (my 168) (mcc 168) (mnl 168) (mrt 168) ∈ lw_tbl := tbK_in (k := 4) (List.mem_of_getElem? (i := 170) rfl)
set_option maxRecDepth 100000 in
theorem mw_169 : Cond.code (my 169) (mcc 169) (mnl 169) (mrt 169) ∈ lw_tbl := tbK_in (k := 3) (List.mem_of_getElem? (i := 217) rfl)
set_option maxRecDepth 100000 in
theorem mw_170 : Cond.code (my 170) (mcc 170) (mnl 170) (mrt 170) ∈ lw_tbl := tbK_in (k := 6) (List.mem_of_getElem? (i := 211) rfl)
set_option maxRecDepth 100000 in
theorem mw_171 : Cond.code (my 171) (mcc 171) (mnl 171) (mrt 171) ∈ lw_tbl := tbK_in (k := 5) (List.mem_of_getElem? (i := 232) rfl)
set_option maxRecDepth 100000 in
theorem mw_172 : Cond.code (my 172) (mcc 172) (mnl 172) (mrt 172) ∈ lw_tbl := tbK_in (k := 6) (List.mem_of_getElem? (i := 207) rfl)
set_option maxRecDepth 100000 in
theorem mw_173 : Cond.code (my 173) (mcc 173) (mnl 173) (mrt 173) ∈ lw_tbl := tbK_in (k := 7) (List.mem_of_getElem? (i := 27) rfl)
set_option maxRecDepth 100000 in
theorem mw_174 : Cond.code (my 174) (mcc 174) (mnl 174) (mrt 174) ∈ lw_tbl := tbK_in (k := 6) (List.mem_of_getElem? (i := 203) rfl)
set_option maxRecDepth 100000 in
theorem mw_175 : Cond.code (my 175) (mcc 175) (mnl 175) (mrt 175) ∈ lw_tbl := tbK_in (k := 6) (List.mem_of_getElem? (i := 215) rfl)
set_option maxRecDepth 100000 in
theorem mw_176 : Cond.code (my 176) (mcc 176) (mnl 176) (mrt 176) ∈ lw_tbl := tbK_in (k := 6) (List.mem_of_getElem? (i := 219) rfl)
set_option maxRecDepth 100000 in
theorem mw_177 : Cond.code (my 177) (mcc 177) (mnl 177) (mrt 177) ∈ lw_tbl := tbK_in (k := 6) (List.mem_of_getElem? (i := 227) rfl)
set_option maxRecDepth 100000 in
theorem mw_178 : Cond.code (my 178) (mcc 178) (mnl 178) (mrt 178) ∈ lw_tbl := tbK_in (k := 6) (List.mem_of_getElem? (i := 231) rfl)
set_option maxRecDepth 100000 in
theorem mw_179 : Cond.code (my 179) (mcc 179) (mnl 179) (mrt 179) ∈ lw_tbl := tbK_in (k := 6) (List.mem_of_getElem? (i := 223) rfl)
set_option maxRecDepth 100000 in
theorem mw_180 : Cond.code (my 180) (mcc 180) (mnl 180) (mrt 180) ∈ lw_tbl := tbK_in (k := 7) (List.mem_of_getElem? (i := 63) rfl)
set_option maxRecDepth 100000 in
theorem mw_181 : Cond.code (my 181) (mcc 181) (mnl 181) (mrt 181) ∈ lw_tbl := tbK_in (k := 7) (List.mem_of_getElem? (i := 59) rfl)
set_option maxRecDepth 100000 in
theorem mw_182 : Cond.code (my 182) (mcc 182) (mnl 182) (mrt 182) ∈ lw_tbl := tbK_in (k := 7) (List.mem_of_getElem? (i := 43) rfl)
set_option maxRecDepth 100000 in
theorem mw_183 : Cond.code (my 183) (mcc 183) (mnl 183) (mrt 183) ∈ lw_tbl := tbK_in (k := 7) (List.mem_of_getElem? (i := 3) rfl)
set_option maxRecDepth 100000 in
theorem mw_184 : Cond.code (my 184) (mcc 184) (mnl 184) (mrt 184) ∈ lw_tbl := tbK_in (k := 6) (List.mem_of_getElem? (i := 235) rfl)
set_option maxRecDepth 100000 in
theorem mw_185 : Cond.code (my 185) (mcc 185) (mnl 185) (mrt 185) ∈ lw_tbl := tbK_in (k := 7) (List.mem_of_getElem? (i := 7) rfl)
set_option maxRecDepth 100000 in
theorem mw_186 : Cond.code (my 186) (mcc 186) (mnl 186) (mrt 186) ∈ lw_tbl := tbK_in (k := 6) (List.mem_of_getElem? (i := 239) rfl)
set_option maxRecDepth 100000 in
theorem mw_187 : Cond.code (my 187) (mcc 187) (mnl 187) (mrt 187) ∈ lw_tbl := tbK_in (k := 7) (List.mem_of_getElem? (i := 11) rfl)
set_option maxRecDepth 100000 in
theorem mw_188 : Cond.code (my 188) (mcc 188) (mnl 188) (mrt 188) ∈ lw_tbl := tbK_in (k := 7) (List.mem_of_getElem? (i := 19) rfl)
set_option maxRecDepth 100000 in
theorem mw_189 : Cond.code (my 189) (mcc 189) (mnl 189) (mrt 189) ∈ lw_tbl := tbK_in (k := 7) (List.mem_of_getElem? (i := 15) rfl)
set_option maxRecDepth 100000 in
theorem mw_190 : Cond.code (my 190) (mcc 190) (mnl 190) (mrt 190) ∈ lw_tbl := tbK_in (k := 7) (List.mem_of_getElem? (i := 31) rfl)
set_option maxRecDepth 100000 in
theorem mw_191 : Cond.code (my 191) (mcc 191) (mnl 191) (mrt 191) ∈ lw_tbl := tbK_in (k := 7) (List.mem_of_getElem? (i := 23) rfl)
set_option maxRecDepth 100000 in
theorem mw_192 : Cond.code (my 192) (mcc 192) (mnl 192) (mrt 192) ∈ lw_tbl := tbK_in (k := 7) (List.mem_of_getElem? (i := 39) rfl)
set_option maxRecDepth 100000 in
theorem mw_193 : Cond.code (my 193) (mcc 193) (mnl 193) (mrt 193) ∈ lw_tbl := tbK_in (k := 7) (List.mem_of_getElem? (i := 35) rfl)
set_option maxRecDepth 100000 in
theorem mw_194 : Cond.code (my 194) (mcc 194) (mnl 194) (mrt 194) ∈ lw_tbl := tbK_in (k := 7) (List.mem_of_getElem? (i := 67) rfl)
set_option maxRecDepth 100000 in
theorem mw_195 : Cond.code (my 195) (mcc 195) (mnl 195) (mrt 195) ∈ lw_tbl := tbK_in (k := 7) (List.mem_of_getElem? (i := 55) rfl)
set_option maxRecDepth 100000 in
theorem mw_196 : Cond.code (my 196) (mcc 196) (mnl 196) (mrt 196) ∈ lw_tbl := tbK_in (k := 7) (List.mem_of_getElem? (i := 51) rfl)
set_option maxRecDepth 100000 in
theorem mw_197 : Cond.code (my 197) (mcc 197) (mnl 197) (mrt 197) ∈ lw_tbl := tbK_in (k := 7) (List.mem_of_getElem? (i := 47) rfl)
set_option maxRecDepth 100000 in
theorem mw_198 : Cond.code (my 198) (mcc 198) (mnl 198) (mrt 198) ∈ lw_tbl := tbK_in (k := 7) (List.mem_of_getElem? (i := 76) rfl)
set_option maxRecDepth 100000 in
theorem mw_199 : Cond.code (my 199) (mcc 199) (mnl 199) (mrt 199) ∈ lw_tbl := tbK_in (k := 7) (List.mem_of_getElem? (i := 72) rfl)
set_option maxRecDepth 100000 in
theorem mw_200 : Cond.code (my 200) (mcc 200) (mnl 200) (mrt 200) ∈ lw_tbl := tbK_in (k := 5) (List.mem_of_getElem? (i := 237) rfl)
set_option maxRecDepth 100000 in
theorem mw_201 : Cond.code (my 201) (mcc 201) (mnl 201) (mrt 201) ∈ lw_tbl := tbK_in (k := 7) (List.mem_of_getElem? (i := 80) rfl)
set_option maxRecDepth 100000 in
theorem mw_202 : Cond.code (my 202) (mcc 202) (mnl 202) (mrt 202) ∈ lw_tbl := tbK_in (k := 7) (List.mem_of_getElem? (i := 96) rfl)
set_option maxRecDepth 100000 in
theorem mw_203 : Cond.code (my 203) (mcc 203) (mnl 203) (mrt 203) ∈ lw_tbl := tbK_in (k := 7) (List.mem_of_getElem? (i := 120) rfl)
set_option maxRecDepth 100000 in
theorem mw_204 : Cond.code (my 204) (mcc 204) (mnl 204) (mrt 204) ∈ lw_tbl := tbK_in (k := 7) (List.mem_of_getElem? (i := 105) rfl)
set_option maxRecDepth 100000 in
theorem mw_205 : Cond.code (my 205) (mcc 205) (mnl 205) (mrt 205) ∈ lw_tbl := tbK_in (k := 7) (List.mem_of_getElem? (i := 100) rfl)
set_option maxRecDepth 100000 in
theorem mw_206 : Cond.code (my 206) (mcc 206) (mnl 206) (mrt 206) ∈ lw_tbl := tbK_in (k := 7) (List.mem_of_getElem? (i := 92) rfl)
set_option maxRecDepth 100000 in
theorem mw_207 : Cond.code (my 207) (mcc 207) (mnl 207) (mrt 207) ∈ lw_tbl := tbK_in (k := 7) (List.mem_of_getElem? (i := 124) rfl)
set_option maxRecDepth 100000 in
theorem mw_208 : Cond.code (my 208) (mcc 208) (mnl 208) (mrt 208) ∈ lw_tbl := tbK_in (k := 7) (List.mem_of_getElem? (i := 136) rfl)
set_option maxRecDepth 100000 in
theorem mw_209 : Cond.code (my 209) (mcc 209) (mnl 209) (mrt 209) ∈ lw_tbl := tbK_in (k := 7) (List.mem_of_getElem? (i := 144) rfl)
set_option maxRecDepth 100000 in
theorem mw_210 : Cond.code (my 210) (mcc 210) (mnl 210) (mrt 210) ∈ lw_tbl := tbK_in (k := 7) (List.mem_of_getElem? (i := 152) rfl)
set_option maxRecDepth 100000 in
theorem mw_211 : Cond.code (my 211) (mcc 211) (mnl 211) (mrt 211) ∈ lw_tbl := tbK_in (k := 7) (List.mem_of_getElem? (i := 148) rfl)
set_option maxRecDepth 100000 in
theorem mw_212 : Cond.code (my 212) (mcc 212) (mnl 212) (mrt 212) ∈ lw_tbl := tbK_in (k := 7) (List.mem_of_getElem? (i := 140) rfl)
set_option maxRecDepth 100000 in
theorem mw_213 : Cond.code (my 213) (mcc 213) (mnl 213) (mrt 213) ∈ lw_tbl := tbK_in (k := 7) (List.mem_of_getElem? (i := 132) rfl)
set_option maxRecDepth 100000 in
theorem mw_214 : Cond.code (my 214) (mcc 214) (mnl 214) (mrt 214) ∈ lw_tbl := tbK_in (k := 7) (List.mem_of_getElem? (i := 156) rfl)
set_option maxRecDepth 100000 in
theorem mw_215 : Cond.code (my 215) (mcc 215) (mnl 215) (mrt 215) ∈ lw_tbl := tbK_in (k := 7) (List.mem_of_getElem? (i := 128) rfl)
set_option maxRecDepth 100000 in
theorem mw_216 : Cond.code (my 216) (mcc 216) (mnl 216) (mrt 216) ∈ lw_tbl := tbK_in (k := 7) (List.mem_of_getElem? (i := 88) rfl)
set_option maxRecDepth 100000 in
theorem mw_217 : Cond.code (my 217) (mcc 217) (mnl 217) (mrt 217) ∈ lw_tbl := tbK_in (k := 7) (List.mem_of_getElem? (i := 84) rfl)
set_option maxRecDepth 100000 in
theorem mw_218 : Cond.code (my 218) (mcc 218) (mnl 218) (mrt 218) ∈ lw_tbl := tbK_in (k := 7) (List.mem_of_getElem? (i := 160) rfl)
set_option maxRecDepth 100000 in
theorem mw_219 : Cond.code (my 219) (mcc 219) (mnl 219) (mrt 219) ∈ lw_tbl := tbK_in (k := 7) (List.mem_of_getElem? (i := 176) rfl)
set_option maxRecDepth 100000 in
theorem mw_220 : Cond.code (my 220) (mcc 220) (mnl 220) (mrt 220) ∈ lw_tbl := tbK_in (k := 7) (List.mem_of_getElem? (i := 172) rfl)
set_option maxRecDepth 100000 in
theorem mw_221 : Cond.code (my 221) (mcc 221) (mnl 221) (mrt 221) ∈ lw_tbl := tbK_in (k := 7) (List.mem_of_getElem? (i := 168) rfl)
set_option maxRecDepth 100000 in
theorem mw_222 : Cond.code (my 222) (mcc 222) (mnl 222) (mrt 222) ∈ lw_tbl := tbK_in (k := 7) (List.mem_of_getElem? (i := 164) rfl)
set_option maxRecDepth 100000 in
theorem mw_223 : Cond.code (my 223) (mcc 223) (mnl 223) (mrt 223) ∈ lw_tbl := tbK_in (k := 7) (List.mem_of_getElem? (i := 180) rfl)
set_option maxRecDepth 100000 in
theorem mw_224 : Cond.code (my 224) (mcc 224) (mnl 224) (mrt 224) ∈ lw_tbl := tbK_in (k := 7) (List.mem_of_getElem? (i := 184) rfl)
set_option maxRecDepth 100000 in
theorem mw_225 : Cond.code (my 225) (mcc 225) (mnl 225) (mrt 225) ∈ lw_tbl := tbK_in (k := 7) (List.mem_of_getElem? (i := 188) rfl)
set_option maxRecDepth 100000 in
theorem mw_226 : Cond.code (my 226) (mcc 226) (mnl 226) (mrt 226) ∈ lw_tbl := tbK_in (k := 7) (List.mem_of_getElem? (i := 192) rfl)
set_option maxRecDepth 100000 in
theorem mw_227 : Cond.code (my 227) (mcc 227) (mnl 227) (mrt 227) ∈ lw_tbl := tbK_in (k := 7) (List.mem_of_getElem? (i := 212) rfl)
set_option maxRecDepth 100000 in
theorem mw_228 : Cond.code (my 228) (mcc 228) (mnl 228) (mrt 228) ∈ lw_tbl := tbK_in (k := 7) (List.mem_of_getElem? (i := 196) rfl)
set_option maxRecDepth 100000 in
theorem mw_229 : Cond.code (my 229) (mcc 229) (mnl 229) (mrt 229) ∈ lw_tbl := tbK_in (k := 7) (List.mem_of_getElem? (i := 224) rfl)
set_option maxRecDepth 100000 in
theorem mw_230 : Cond.code (my 230) (mcc 230) (mnl 230) (mrt 230) ∈ lw_tbl := tbK_in (k := 7) (List.mem_of_getElem? (i := 220) rfl)
set_option maxRecDepth 100000 in
theorem mw_231 : Cond.code (my 231) (mcc 231) (mnl 231) (mrt 231) ∈ lw_tbl := tbK_in (k := 7) (List.mem_of_getElem? (i := 200) rfl)
set_option maxRecDepth 100000 in
theorem mw_232 : Cond.code (my 232) (mcc 232) (mnl 232) (mrt 232) ∈ lw_tbl := tbK_in (k := 7) (List.mem_of_getElem? (i := 204) rfl)
set_option maxRecDepth 100000 in
theorem mw_233 : Cond.code (my 233) (mcc 233) (mnl 233) (mrt 233) ∈ lw_tbl := tbK_in (k := 7) (List.mem_of_getElem? (i := 216) rfl)
set_option maxRecDepth 100000 in
theorem mw_234 : Cond.code (my 234) (mcc 234) (mnl 234) (mrt 234) ∈ lw_tbl := tbK_in (k := 7) (List.mem_of_getElem? (i := 208) rfl)
set_option maxRecDepth 100000 in
theorem mw_235 : Cond.code (my 235) (mcc 235) (mnl 235) (mrt 235) ∈ lw_tbl := tbK_in (k := 7) (List.mem_of_getElem? (i := 228) rfl)
set_option maxRecDepth 100000 in
theorem mw_236 : Cond.code (my 236) (mcc 236) (mnl 236) (mrt 236) ∈ lw_tbl := tbK_in (k := 7) (List.mem_of_getElem? (i := 237) rfl)
set_option maxRecDepth 100000 in
theorem mw_237 : Cond.code (my 237) (mcc 237) (mnl 237) (mrt 237) ∈ lw_tbl := tbK_in (k := 7) (List.mem_of_getElem? (i := 232) rfl)
set_option maxRecDepth 100000 in
theorem mw_238 : Cond.code (my 238) (mcc 238) (mnl 238) (mrt 238) ∈ lw_tbl := tbK_in (k := 8) (List.mem_of_getElem? (i := 1) rfl)
set_option maxRecDepth 100000 in
theorem mw_239 : Cond.code (my 239) (mcc 239) (mnl 239) (mrt 239) ∈ lw_tbl := tbK_in (k := 8) (List.mem_of_getElem? (i := 5) rfl)
set_option maxRecDepth 100000 in
theorem mw_240 : Cond.code (my 240) (mcc 240) (mnl 240) (mrt 240) ∈ lw_tbl := tbK_in (k := 8) (List.mem_of_getElem? (i := 9) rfl)
set_option maxRecDepth 100000 in
theorem mw_241 : Cond.code (my 241) (mcc 241) (mnl 241) (mrt 241) ∈ lw_tbl := tbK_in (k := 8) (List.mem_of_getElem? (i := 13) rfl)
set_option maxRecDepth 100000 in
theorem mw_242 : Cond.code (my 242) (mcc 242) (mnl 242) (mrt 242) ∈ lw_tbl := tbK_in (k := 8) (List.mem_of_getElem? (i := 25) rfl)
set_option maxRecDepth 100000 in
theorem mw_243 : Cond.code (my 243) (mcc 243) (mnl 243) (mrt 243) ∈ lw_tbl := tbK_in (k := 8) (List.mem_of_getElem? (i := 21) rfl)
set_option maxRecDepth 100000 in
theorem mw_244 : Cond.code (my 244) (mcc 244) (mnl 244) (mrt 244) ∈ lw_tbl := tbK_in (k := 8) (List.mem_of_getElem? (i := 17) rfl)
set_option maxRecDepth 100000 in
theorem mw_245 : Cond.code (my 245) (mcc 245) (mnl 245) (mrt 245) ∈ lw_tbl := tbK_in (k := 8) (List.mem_of_getElem? (i := 33) rfl)
set_option maxRecDepth 100000 in
theorem mw_246 : Cond.code (my 246) (mcc 246) (mnl 246) (mrt 246) ∈ lw_tbl := tbK_in (k := 8) (List.mem_of_getElem? (i := 29) rfl)
set_option maxRecDepth 100000 in
theorem mw_247 : Cond.code (my 247) (mcc 247) (mnl 247) (mrt 247) ∈ lw_tbl := tbK_in (k := 8) (List.mem_of_getElem? (i := 37) rfl)
set_option maxRecDepth 100000 in
theorem mw_248 : Cond.code (my 248) (mcc 248) (mnl 248) (mrt 248) ∈ lw_tbl := tbK_in (k := 8) (List.mem_of_getElem? (i := 49) rfl)
set_option maxRecDepth 100000 in
theorem mw_249 : Cond.code (my 249) (mcc 249) (mnl 249) (mrt 249) ∈ lw_tbl := tbK_in (k := 8) (List.mem_of_getElem? (i := 45) rfl)
set_option maxRecDepth 100000 in
theorem mw_250 : Cond.code (my 250) (mcc 250) (mnl 250) (mrt 250) ∈ lw_tbl := tbK_in (k := 8) (List.mem_of_getElem? (i := 41) rfl)
set_option maxRecDepth 100000 in
theorem mw_251 : Cond.code (my 251) (mcc 251) (mnl 251) (mrt 251) ∈ lw_tbl := tbK_in (k := 8) (List.mem_of_getElem? (i := 57) rfl)
set_option maxRecDepth 100000 in
theorem mw_252 : Cond.code (my 252) (mcc 252) (mnl 252) (mrt 252) ∈ lw_tbl := tbK_in (k := 8) (List.mem_of_getElem? (i := 53) rfl)
set_option maxRecDepth 100000 in
theorem mw_253 : Cond.code (my 253) (mcc 253) (mnl 253) (mrt 253) ∈ lw_tbl := tbK_in (k := 8) (List.mem_of_getElem? (i := 65) rfl)
set_option maxRecDepth 100000 in
theorem mw_254 : Cond.code (my 254) (mcc 254) (mnl 254) (mrt 254) ∈ lw_tbl := tbK_in (k := 8) (List.mem_of_getElem? (i := 61) rfl)
set_option maxRecDepth 100000 in
theorem mw_255 : Cond.code (my 255) (mcc 255) (mnl 255) (mrt 255) ∈ lw_tbl := tbK_in (k := 8) (List.mem_of_getElem? (i := 69) rfl)
set_option maxRecDepth 100000 in
theorem mw_256 : Cond.code (my 256) (mcc 256) (mnl 256) (mrt 256) ∈ lw_tbl := tbK_in (k := 8) (List.mem_of_getElem? (i := 73) rfl)
set_option maxRecDepth 100000 in
theorem mw_257 : Cond.code (my 257) (mcc 257) (mnl 257) (mrt 257) ∈ lw_tbl := tbK_in (k := 8) (List.mem_of_getElem? (i := 77) rfl)
set_option maxRecDepth 100000 in
theorem mw_258 : Cond.code (my 258) (mcc 258) (mnl 258) (mrt 258) ∈ lw_tbl := tbK_in (k := 8) (List.mem_of_getElem? (i := 81) rfl)
set_option maxRecDepth 100000 in
theorem mw_259 : Cond.code (my 259) (mcc 259) (mnl 259) (mrt 259) ∈ lw_tbl := tbK_in (k := 8) (List.mem_of_getElem? (i := 85) rfl)
set_option maxRecDepth 100000 in
theorem mw_260 : Cond.code (my 260) (mcc 260) (mnl 260) (mrt 260) ∈ lw_tbl := tbK_in (k := 8) (List.mem_of_getElem? (i := 90) rfl)
set_option maxRecDepth 100000 in
theorem mw_261 : Cond.code (my 261) (mcc 261) (mnl 261) (mrt 261) ∈ lw_tbl := tbK_in (k := 8) (List.mem_of_getElem? (i := 94) rfl)
set_option maxRecDepth 100000 in
theorem mw_262 : Cond.code (my 262) (mcc 262) (mnl 262) (mrt 262) ∈ lw_tbl := tbK_in (k := 8) (List.mem_of_getElem? (i := 102) rfl)
set_option maxRecDepth 100000 in
theorem mw_263 : Cond.code (my 263) (mcc 263) (mnl 263) (mrt 263) ∈ lw_tbl := tbK_in (k := 8) (List.mem_of_getElem? (i := 98) rfl)
set_option maxRecDepth 100000 in
theorem mw_264 : Cond.code (my 264) (mcc 264) (mnl 264) (mrt 264) ∈ lw_tbl := tbK_in (k := 8) (List.mem_of_getElem? (i := 106) rfl)
set_option maxRecDepth 100000 in
theorem mw_265 : Cond.code (my 265) (mcc 265) (mnl 265) (mrt 265) ∈ lw_tbl := tbK_in (k := 8) (List.mem_of_getElem? (i := 110) rfl)
set_option maxRecDepth 100000 in
theorem mw_266 : Cond.code (my 266) (mcc 266) (mnl 266) (mrt 266) ∈ lw_tbl := tbK_in (k := 8) (List.mem_of_getElem? (i := 114) rfl)
set_option maxRecDepth 100000 in
theorem mw_267 : Cond.code (my 267) (mcc 267) (mnl 267) (mrt 267) ∈ lw_tbl := tbK_in (k := 8) (List.mem_of_getElem? (i := 119) rfl)
set_option maxRecDepth 100000 in
theorem mw_268 : Cond.code (my 268) (mcc 268) (mnl 268) (mrt 268) ∈ lw_tbl := tbK_in (k := 4) (List.mem_of_getElem? (i := 146) rfl)
set_option maxRecDepth 100000 in
theorem mw_269 : Cond.code (my 269) (mcc 269) (mnl 269) (mrt 269) ∈ lw_tbl := tbK_in (k := 5) (List.mem_of_getElem? (i := 67) rfl)
set_option maxRecDepth 100000 in
theorem mw_270 : Cond.code (my 270) (mcc 270) (mnl 270) (mrt 270) ∈ lw_tbl := tbK_in (k := 4) (List.mem_of_getElem? (i := 4) rfl)
set_option maxRecDepth 100000 in
theorem mw_271 : Cond.code (my 271) (mcc 271) (mnl 271) (mrt 271) ∈ lw_tbl := tbK_in (k := 3) (List.mem_of_getElem? (i := 223) rfl)
set_option maxRecDepth 100000 in
theorem mw_272 : Cond.code (my 272) (mcc 272) (mnl 272) (mrt 272) ∈ lw_tbl := tbK_in (k := 1) (List.mem_of_getElem? (i := 194) rfl)
set_option maxRecDepth 100000 in
theorem mw_273 : Cond.code (my 273) (mcc 273) (mnl 273) (mrt 273) ∈ lw_tbl := tbK_in (k := 1) (List.mem_of_getElem? (i := 185) rfl)
set_option maxRecDepth 100000 in
theorem mw_274 : Cond.code (my 274) (mcc 274) (mnl 274) (mrt 274) ∈ lw_tbl := tbK_in (k := 1) (List.mem_of_getElem? (i := 198) rfl)
set_option maxRecDepth 100000 in
theorem mw_275 : Cond.code (my 275) (mcc 275) (mnl 275) (mrt 275) ∈ lw_tbl := tbK_in (k := 1) (List.mem_of_getElem? (i := 189) rfl)
set_option maxRecDepth 100000 in
theorem mw_276 : Cond.code (my 276) (mcc 276) (mnl 276) (mrt 276) ∈ lw_tbl := tbK_in (k := 1) (List.mem_of_getElem? (i := 202) rfl)
set_option maxRecDepth 100000 in
theorem mw_277 : Cond.code (my 277) (mcc 277) (mnl 277) (mrt 277) ∈ lw_tbl := tbK_in (k := 1) (List.mem_of_getElem? (i := 208) rfl)
set_option maxRecDepth 100000 in
theorem mw_278 : Cond.code (my 278) (mcc 278) (mnl 278) (mrt 278) ∈ lw_tbl := tbK_in (k := 1) (List.mem_of_getElem? (i := 205) rfl)
set_option maxRecDepth 100000 in
theorem mw_279 : Cond.code (my 279) (mcc 279) (mnl 279) (mrt 279) ∈ lw_tbl := tbK_in (k := 1) (List.mem_of_getElem? (i := 226) rfl)
set_option maxRecDepth 100000 in
theorem mw_280 : Cond.code (my 280) (mcc 280) (mnl 280) (mrt 280) ∈ lw_tbl := tbK_in (k := 1) (List.mem_of_getElem? (i := 222) rfl)
set_option maxRecDepth 100000 in
theorem mw_281 : Cond.code (my 281) (mcc 281) (mnl 281) (mrt 281) ∈ lw_tbl := tbK_in (k := 1) (List.mem_of_getElem? (i := 216) rfl)
set_option maxRecDepth 100000 in
theorem mw_282 : Cond.code (my 282) (mcc 282) (mnl 282) (mrt 282) ∈ lw_tbl := tbK_in (k := 1) (List.mem_of_getElem? (i := 219) rfl)
set_option maxRecDepth 100000 in
theorem mw_283 : Cond.code (my 283) (mcc 283) (mnl 283) (mrt 283) ∈ lw_tbl := tbK_in (k := 1) (List.mem_of_getElem? (i := 39) rfl)
set_option maxRecDepth 100000 in
theorem mw_284 : Cond.code (my 284) (mcc 284) (mnl 284) (mrt 284) ∈ lw_tbl := tbK_in (k := 1) (List.mem_of_getElem? (i := 213) rfl)
/-! method references: class, place in its pool, method, arguments, 0 virtual 1 static 2 special; place of the link's word, 1: of a nest mate -/
def mrL_0 : List (Nat × Nat × Nat × Nat × Nat × Nat × Nat) := [(13, 9, 107, 0, 2, 1025, 0), (11, 1, 999, 0, 2, 1028, 0), (11, 9, 100, 0, 2, 1033, 0), (10, 3, 999, 0, 2, 1036, 0), (10, 22, 283, 2, 1, 1037, 0), (11, 18, 26, 1, 2, 1060, 0), (3, 3, 999, 0, 2, 1063, 0), (3, 21, 20, 0, 2, 1067, 1), (2, 3, 999, 0, 2, 1070, 0), (11, 27, 93, 0, 2, 1141, 0), (9, 3, 999, 0, 2, 1144, 0), (9, 28, 58, 2, 2, 1149, 0), (6, 3, 999, 0, 2, 1152, 0), (9, 37, 273, 0, 0, 1182, 0), (18, 335, 275, 0, 0, 1186, 0), (9, 43, 272, 2, 1, 1192, 0), (9, 53, 274, 1, 0, 1195, 0), (18, 492, 276, 0, 0, 1199, 0), (18, 495, 278, 2, 1, 1203, 0), (19, 9, 277, 2, 1, 1206, 0), (18, 1059, 284, 3, 1, 1211, 0), (18, 498, 281, 2, 1, 1214, 0), (20, 67, 282, 2, 1, 1217, 0), (20, 48, 280, 1, 1, 1220, 0), (20, 414, 277, 2, 1, 1223, 0), (20, 71, 279, 2, 1, 1224, 0), (9, 57, 96, 0, 0, 1233, 0), (9, 69, 60, 3, 0, 1237, 0), (6, 28, 272, 2, 1, 2001, 0), (6, 38, 61, 0, 0, 2002, 0), (6, 58, 62, 1, 0, 2006, 0), (6, 65, 67, 1, 1, 2010, 0), (6, 69, 68, 1, 1, 2013, 0), (6, 62, 63, 2, 0, 2016, 0), (6, 72, 64, 2, 0, 2020, 0), (6, 76, 65, 3, 0, 2025, 0), (6, 100, 273, 0, 0, 2029, 0), (6, 106, 274, 1, 0, 2030, 0), (6, 47, 69, 2, 0, 2041, 0), (6, 51, 78, 1, 0, 2045, 0), (6, 119, 77, 1, 0, 2049, 0), (6, 122, 79, 0, 0, 2053, 0), (6, 134, 80, 0, 0, 2057, 0), (6, 113, 70, 1, 0, 2061, 0), (6, 116, 71, 1, 0, 2065, 0), (6, 128, 72, 1, 0, 2069, 0), (6, 131, 73, 1, 0, 2073, 0), (6, 137, 74, 1, 0, 2077, 0), (6, 140, 75, 1, 0, 2081, 0), (6, 143, 76, 1, 0, 2085, 0), (6, 146, 66, 1, 0, 2089, 0), (6, 125, 81, 1, 0, 2093, 0), (6, 149, 59, 1, 1, 2097, 0), (6, 24, 157, 3, 1, 2100, 1), (11, 34, 12, 3, 2, 2132, 0), (1, 3, 999, 0, 2, 2135, 0), (11, 43, 0, 1, 2, 2151, 0), (0, 3, 999, 0, 2, 2154, 0), (11, 52, 88, 2, 2, 2207, 0), (8, 3, 999, 0, 2, 2210, 0)]
def mrL_1 : List (Nat × Nat × Nat × Nat × Nat × Nat × Nat) := [(11, 61, 45, 2, 2, 2220, 0), (5, 3, 999, 0, 2, 2223, 0), (11, 70, 36, 0, 2, 3013, 1), (4, 3, 999, 0, 2, 3016, 0), (11, 77, 82, 0, 2, 3061, 1), (7, 1, 999, 0, 2, 3064, 0), (13, 13, 108, 2, 0, 3105, 0), (11, 82, 158, 1, 1, 3109, 0), (11, 86, 157, 3, 1, 3112, 0), (13, 18, 109, 2, 0, 3113, 0), (13, 22, 110, 2, 0, 3117, 0), (13, 26, 111, 2, 0, 3121, 0), (11, 104, 101, 1, 0, 3125, 0), (11, 108, 102, 1, 0, 3129, 0), (11, 111, 103, 1, 0, 3133, 0), (10, 28, 102, 1, 0, 3137, 0), (11, 114, 167, 1, 1, 3138, 0), (13, 30, 112, 4, 0, 3141, 0), (11, 118, 163, 1, 1, 3145, 0), (11, 121, 160, 1, 1, 3148, 0), (11, 124, 27, 4, 0, 3151, 0), (3, 26, 23, 4, 0, 3155, 0), (2, 18, 163, 1, 1, 3159, 1), (13, 35, 113, 2, 0, 3162, 0), (11, 128, 28, 1, 0, 3166, 0), (3, 30, 157, 3, 1, 3170, 1), (11, 140, 21, 2, 1, 3171, 0), (11, 144, 24, 1, 0, 3176, 0), (13, 39, 114, 2, 0, 3180, 0), (11, 147, 162, 1, 1, 3184, 0), (13, 43, 115, 2, 0, 3187, 0), (13, 47, 116, 2, 0, 3191, 0), (11, 166, 159, 1, 1, 3195, 0), (11, 169, 25, 1, 0, 3198, 0), (13, 51, 117, 2, 0, 3202, 0), (11, 172, 31, 2, 0, 3206, 0), (3, 52, 25, 1, 0, 3210, 0), (3, 59, 104, 3, 0, 3211, 0), (10, 32, 169, 1, 1, 3215, 1), (10, 36, 22, 3, 1, 3218, 0), (10, 45, 271, 2, 1, 3221, 0), (13, 55, 118, 2, 0, 3224, 0), (11, 178, 33, 2, 0, 3229, 0), (3, 71, 31, 2, 0, 3233, 0), (3, 75, 106, 2, 0, 3234, 0), (10, 54, 105, 3, 0, 3238, 0), (10, 51, 270, 1, 1, 4002, 0), (13, 60, 119, 2, 0, 4005, 0), (11, 182, 34, 2, 0, 4009, 0), (3, 79, 33, 2, 0, 4013, 0), (13, 66, 120, 2, 0, 4014, 0), (11, 185, 95, 2, 0, 4018, 0), (13, 71, 121, 0, 0, 4023, 0), (11, 189, 96, 0, 0, 4027, 0), (13, 76, 122, 2, 0, 4028, 0), (11, 193, 94, 1, 0, 4032, 0), (9, 63, 157, 3, 1, 4036, 1), (13, 80, 123, 4, 0, 4037, 0), (11, 197, 13, 4, 0, 4041, 0), (1, 35, 25, 1, 0, 4045, 0)]
def mrL_2 : List (Nat × Nat × Nat × Nat × Nat × Nat × Nat) := [(1, 45, 17, 2, 0, 4046, 0), (1, 49, 18, 2, 0, 4050, 0), (1, 103, 102, 1, 0, 4054, 0), (1, 99, 19, 2, 0, 4055, 0), (1, 106, 161, 1, 1, 4059, 1), (1, 109, 101, 1, 0, 4062, 0), (1, 53, 103, 1, 0, 4063, 0), (1, 59, 167, 1, 1, 4064, 1), (1, 74, 97, 3, 0, 4065, 0), (9, 73, 59, 1, 1, 4069, 0), (9, 77, 98, 2, 1, 4070, 0), (9, 84, 167, 1, 1, 4073, 1), (9, 80, 99, 3, 1, 4074, 0), (13, 85, 124, 2, 0, 4077, 0), (11, 200, 14, 1, 0, 4081, 0), (1, 85, 13, 4, 0, 4085, 0), (11, 203, 15, 2, 0, 4086, 0), (1, 88, 14, 1, 0, 4090, 0), (1, 91, 34, 2, 0, 4091, 0), (1, 95, 166, 2, 1, 4092, 1), (13, 89, 125, 1, 0, 4095, 0), (11, 206, 16, 1, 0, 4099, 0), (13, 94, 126, 5, 0, 4103, 0), (11, 209, 37, 5, 0, 4107, 0), (13, 99, 127, 3, 0, 4111, 0), (11, 213, 38, 3, 0, 4115, 0), (13, 104, 128, 3, 0, 4119, 0), (11, 217, 1, 3, 0, 4123, 0), (13, 108, 129, 4, 0, 4127, 0), (11, 220, 2, 4, 0, 4131, 0), (13, 112, 130, 1, 0, 4135, 0), (11, 227, 4, 1, 0, 4139, 0), (0, 60, 166, 2, 1, 4143, 1), (0, 64, 268, 1, 1, 4144, 0), (13, 116, 131, 2, 0, 4150, 0), (11, 233, 5, 2, 0, 4154, 0), (0, 70, 11, 4, 0, 4158, 0), (0, 112, 35, 4, 0, 4164, 0), (3, 82, 168, 2, 1, 4168, 1), (11, 378, 270, 1, 1, 4171, 0), (11, 383, 271, 2, 1, 4172, 0), (0, 115, 32, 3, 0, 4173, 0), (3, 65, 105, 3, 0, 4177, 0), (13, 120, 132, 0, 0, 4178, 0), (11, 236, 6, 0, 0, 4182, 0), (0, 74, 10, 2, 0, 4186, 0), (0, 106, 5, 2, 0, 4190, 0), (0, 77, 167, 1, 1, 4191, 1), (13, 124, 133, 3, 0, 4192, 0), (11, 239, 7, 4, 0, 4196, 0), (0, 81, 271, 2, 1, 4200, 0), (13, 128, 134, 1, 0, 4201, 0), (11, 242, 8, 2, 0, 4205, 0), (0, 102, 7, 4, 0, 4209, 0), (13, 132, 135, 3, 0, 4210, 0), (11, 245, 165, 2, 1, 4214, 0), (11, 251, 3, 3, 0, 4217, 0), (13, 136, 136, 0, 0, 4221, 0), (11, 254, 9, 0, 0, 4225, 0), (13, 140, 137, 2, 0, 4229, 0)]
def mrL_3 : List (Nat × Nat × Nat × Nat × Nat × Nat × Nat) := [(13, 144, 138, 3, 0, 4233, 0), (11, 257, 29, 1, 0, 4237, 0), (3, 34, 28, 1, 0, 5001, 0), (3, 41, 161, 1, 1, 5002, 1), (11, 260, 30, 0, 0, 5003, 0), (3, 48, 167, 1, 1, 5007, 1), (11, 263, 89, 4, 0, 5008, 0), (8, 19, 91, 3, 0, 5012, 0), (8, 52, 161, 1, 1, 5016, 1), (8, 60, 166, 2, 1, 5017, 1), (8, 64, 92, 3, 0, 5018, 0), (8, 72, 25, 1, 0, 5022, 0), (8, 75, 35, 4, 0, 5023, 0), (8, 67, 13, 4, 0, 5024, 0), (13, 148, 139, 4, 0, 5025, 0), (11, 269, 268, 1, 1, 5029, 0), (11, 274, 90, 4, 0, 5030, 0), (8, 23, 30, 0, 0, 5034, 0), (8, 29, 268, 1, 1, 5035, 0), (8, 35, 89, 4, 0, 5036, 0), (13, 152, 140, 1, 0, 5037, 0), (11, 277, 46, 1, 0, 5041, 0), (13, 156, 141, 3, 0, 5045, 0), (11, 283, 47, 2, 0, 5049, 0), (5, 38, 49, 1, 0, 5053, 0), (5, 63, 104, 3, 0, 5057, 0), (5, 69, 106, 2, 0, 5058, 0), (5, 42, 268, 1, 1, 5059, 0), (5, 48, 48, 1, 0, 5060, 0), (5, 57, 166, 2, 1, 5064, 1), (5, 52, 269, 1, 1, 5065, 0), (11, 286, 48, 1, 0, 5071, 0), (11, 290, 269, 1, 1, 5072, 0), (13, 160, 142, 3, 0, 5073, 0), (11, 295, 51, 1, 0, 5077, 0), (5, 92, 165, 2, 1, 5081, 1), (5, 78, 53, 1, 0, 5082, 0), (5, 117, 21, 2, 1, 5086, 0), (5, 95, 161, 1, 1, 5087, 1), (11, 298, 52, 3, 0, 5088, 0), (5, 98, 54, 1, 0, 5092, 0), (5, 101, 55, 1, 0, 5096, 0), (5, 124, 50, 1, 0, 5100, 0), (5, 127, 56, 1, 0, 5104, 0), (5, 130, 270, 1, 1, 5108, 0), (5, 111, 57, 1, 0, 5109, 0), (5, 107, 157, 3, 1, 5113, 1), (13, 164, 143, 1, 0, 5114, 0), (11, 301, 50, 1, 0, 5118, 0), (13, 168, 144, 3, 0, 5119, 0), (11, 304, 161, 1, 1, 5123, 0), (11, 307, 39, 3, 0, 5124, 0), (13, 172, 145, 2, 0, 5128, 0), (11, 310, 40, 1, 0, 5132, 0), (4, 50, 157, 3, 1, 5136, 1), (11, 316, 41, 2, 0, 5137, 0), (13, 176, 146, 1, 0, 5141, 0), (11, 319, 42, 1, 0, 5145, 0), (13, 180, 147, 1, 0, 5149, 0), (11, 322, 43, 1, 0, 5153, 0)]
def mrL_4 : List (Nat × Nat × Nat × Nat × Nat × Nat × Nat) := [(13, 184, 148, 3, 0, 5157, 0), (11, 325, 44, 3, 0, 5161, 0), (4, 54, 167, 1, 1, 5165, 1), (13, 188, 149, 1, 0, 5167, 0), (13, 193, 150, 1, 0, 5172, 0), (13, 197, 151, 3, 0, 5176, 0), (11, 345, 164, 1, 1, 5180, 0), (11, 348, 86, 2, 0, 5183, 0), (7, 26, 283, 2, 1, 5187, 0), (13, 201, 152, 3, 0, 5188, 0), (11, 351, 83, 0, 0, 5192, 0), (11, 355, 84, 1, 0, 5196, 0), (7, 20, 157, 3, 1, 5200, 1), (11, 356, 87, 2, 0, 5201, 0), (13, 205, 153, 5, 0, 5205, 0), (11, 362, 85, 2, 0, 5209, 0), (11, 368, 998, 5, 1, 5213, 0), (13, 209, 154, 5, 0, 5216, 0), (11, 374, 156, 4, 0, 5220, 0), (13, 213, 155, 2, 0, 5224, 0), (13, 12, 171, 0, 2, 5230, 0), (12, 1, 999, 0, 2, 5233, 0), (12, 215, 200, 0, 0, 5234, 0), (13, 17, 174, 2, 0, 6200, 0), (12, 222, 172, 1, 0, 6204, 0), (12, 218, 170, 3, 0, 6208, 0), (13, 21, 175, 2, 0, 6212, 0), (13, 25, 176, 2, 0, 6216, 0), (13, 29, 179, 2, 0, 6220, 0), (12, 226, 177, 1, 0, 6224, 0), (12, 230, 178, 1, 0, 6228, 0), (13, 34, 184, 4, 0, 6232, 0), (13, 38, 186, 2, 0, 6236, 0), (12, 236, 183, 1, 0, 7000, 0), (12, 239, 185, 2, 0, 7004, 0), (13, 42, 187, 2, 0, 7008, 0), (13, 46, 189, 2, 0, 7012, 0), (12, 243, 188, 1, 0, 7016, 0), (13, 50, 191, 2, 0, 7020, 0), (12, 246, 173, 1, 0, 7024, 0), (12, 249, 190, 2, 0, 7028, 0), (13, 54, 193, 2, 0, 7032, 0), (12, 256, 192, 3, 0, 7036, 0), (12, 253, 182, 1, 0, 7040, 0), (13, 59, 197, 2, 0, 7044, 0), (12, 270, 196, 2, 0, 7048, 0), (12, 266, 195, 3, 0, 7052, 0), (12, 260, 181, 2, 0, 7056, 0), (12, 233, 180, 1, 0, 7060, 0), (12, 263, 194, 2, 0, 7064, 0), (13, 63, 199, 2, 0, 7069, 0), (12, 276, 198, 2, 0, 7073, 0), (13, 70, 201, 2, 0, 7077, 0), (13, 75, 217, 0, 0, 7081, 0), (12, 350, 216, 0, 0, 7085, 0), (12, 339, 206, 0, 0, 7089, 0), (12, 281, 202, 1, 0, 7093, 0), (12, 310, 205, 0, 0, 7097, 0), (12, 286, 204, 1, 0, 7102, 0), (12, 313, 203, 1, 0, 7117, 0)]
def mrL_5 : List (Nat × Nat × Nat × Nat × Nat × Nat × Nat) := [(12, 323, 207, 1, 0, 7121, 0), (12, 346, 215, 0, 0, 7125, 0), (12, 329, 213, 1, 0, 7129, 0), (12, 326, 208, 1, 0, 7133, 0), (12, 333, 212, 1, 0, 7137, 0), (12, 319, 209, 1, 0, 7141, 0), (12, 336, 211, 1, 0, 7145, 0), (12, 316, 210, 1, 0, 7149, 0), (12, 342, 214, 0, 0, 7153, 0), (13, 79, 218, 2, 0, 7157, 0), (13, 84, 222, 4, 0, 7161, 0), (12, 359, 221, 4, 0, 7165, 0), (12, 356, 220, 2, 0, 7169, 0), (12, 353, 219, 3, 0, 7173, 0), (13, 88, 223, 2, 0, 7177, 0), (13, 93, 224, 1, 0, 7181, 0), (13, 98, 225, 5, 0, 7185, 0), (13, 103, 226, 3, 0, 7189, 0), (13, 107, 228, 3, 0, 7193, 0), (13, 111, 231, 4, 0, 7197, 0), (13, 115, 232, 1, 0, 7201, 0), (13, 119, 234, 2, 0, 7205, 0), (12, 370, 227, 1, 0, 7209, 0), (12, 373, 233, 2, 0, 7213, 0), (12, 366, 230, 4, 0, 7217, 0), (12, 363, 229, 1, 0, 7221, 0), (13, 123, 235, 0, 0, 7225, 0), (13, 127, 237, 3, 0, 7229, 0), (12, 376, 235, 0, 0, 7233, 0), (12, 379, 236, 4, 0, 7234, 0), (13, 131, 238, 1, 0, 7238, 0), (13, 135, 239, 3, 0, 8002, 0), (13, 139, 240, 0, 0, 8006, 0), (13, 143, 241, 2, 0, 8010, 0), (13, 147, 244, 3, 0, 8014, 0), (12, 382, 243, 2, 0, 8018, 0), (12, 385, 242, 4, 0, 8022, 0), (13, 151, 246, 4, 0, 8026, 0), (12, 388, 245, 1, 0, 8030, 0), (13, 155, 247, 1, 0, 8034, 0), (13, 159, 250, 3, 0, 8038, 0), (12, 395, 249, 1, 0, 8042, 0), (12, 391, 248, 1, 0, 8046, 0), (13, 167, 252, 1, 0, 8050, 0), (12, 398, 251, 2, 0, 8054, 0), (13, 163, 254, 3, 0, 8058, 0), (12, 401, 253, 1, 0, 8062, 0), (13, 171, 255, 3, 0, 8066, 0), (13, 175, 256, 2, 0, 8070, 0), (13, 179, 257, 1, 0, 8074, 0), (13, 183, 258, 1, 0, 8078, 0), (13, 187, 259, 3, 0, 8082, 0), (13, 192, 260, 1, 0, 8087, 0), (13, 196, 261, 1, 0, 8091, 0), (13, 200, 263, 3, 0, 8095, 0), (12, 406, 262, 1, 0, 8099, 0), (13, 204, 264, 3, 0, 8103, 0), (13, 208, 265, 5, 0, 8107, 0), (13, 212, 266, 5, 0, 8111, 0), (12, 409, 174, 2, 0, 8115, 0)]
def mrL_6 : List (Nat × Nat × Nat × Nat × Nat × Nat × Nat) := [(13, 216, 267, 2, 0, 8116, 0)]
def mrL : List (Nat × Nat × Nat × Nat × Nat × Nat × Nat) := mrL_0 ++ (mrL_1 ++ (mrL_2 ++ (mrL_3 ++ (mrL_4 ++ (mrL_5 ++ (mrL_6))))))
def mr (ci ix : Nat) : Option (Nat × Nat × Nat) := (mrL.find? (fun q => q.1 == ci && q.2.1 == ix)).map (fun q => (q.2.2.1, q.2.2.2.1, q.2.2.2.2.1))
theorem mr_13_9 : mr 13 9 = some (107, 0, 2) := by decide +kernel
theorem mr_11_1 : mr 11 1 = some (999, 0, 2) := by decide +kernel
theorem mr_11_9 : mr 11 9 = some (100, 0, 2) := by decide +kernel
theorem mr_10_3 : mr 10 3 = some (999, 0, 2) := by decide +kernel
theorem mr_10_22 : mr 10 22 = some (283, 2, 1) := by decide +kernel
theorem mr_11_18 : mr 11 18 = some (26, 1, 2) := by decide +kernel
theorem mr_3_3 : mr 3 3 = some (999, 0, 2) := by decide +kernel
theorem mr_3_21 : mr 3 21 = some (20, 0, 2) := by decide +kernel
theorem mr_2_3 : mr 2 3 = some (999, 0, 2) := by decide +kernel
theorem mr_11_27 : mr 11 27 = some (93, 0, 2) := by decide +kernel
theorem mr_9_3 : mr 9 3 = some (999, 0, 2) := by decide +kernel
theorem mr_9_28 : mr 9 28 = some (58, 2, 2) := by decide +kernel
theorem mr_6_3 : mr 6 3 = some (999, 0, 2) := by decide +kernel
theorem mr_9_37 : mr 9 37 = some (273, 0, 0) := by decide +kernel
theorem mr_18_335 : mr 18 335 = some (275, 0, 0) := by decide +kernel
theorem mr_9_43 : mr 9 43 = some (272, 2, 1) := by decide +kernel
theorem mr_9_53 : mr 9 53 = some (274, 1, 0) := by decide +kernel
theorem mr_18_492 : mr 18 492 = some (276, 0, 0) := by decide +kernel
theorem mr_18_495 : mr 18 495 = some (278, 2, 1) := by decide +kernel
theorem mr_19_9 : mr 19 9 = some (277, 2, 1) := by decide +kernel
theorem mr_18_1059 : mr 18 1059 = some (284, 3, 1) := by decide +kernel
theorem mr_18_498 : mr 18 498 = some (281, 2, 1) := by decide +kernel
theorem mr_20_67 : mr 20 67 = some (282, 2, 1) := by decide +kernel
theorem mr_20_48 : mr 20 48 = some (280, 1, 1) := by decide +kernel
theorem mr_20_414 : mr 20 414 = some (277, 2, 1) := by decide +kernel
theorem mr_20_71 : mr 20 71 = some (279, 2, 1) := by decide +kernel
theorem mr_9_57 : mr 9 57 = some (96, 0, 0) := by decide +kernel
theorem mr_9_69 : mr 9 69 = some (60, 3, 0) := by decide +kernel
theorem mr_6_28 : mr 6 28 = some (272, 2, 1) := by decide +kernel
theorem mr_6_38 : mr 6 38 = some (61, 0, 0) := by decide +kernel
theorem mr_6_58 : mr 6 58 = some (62, 1, 0) := by decide +kernel
theorem mr_6_65 : mr 6 65 = some (67, 1, 1) := by decide +kernel
theorem mr_6_69 : mr 6 69 = some (68, 1, 1) := by decide +kernel
theorem mr_6_62 : mr 6 62 = some (63, 2, 0) := by decide +kernel
theorem mr_6_72 : mr 6 72 = some (64, 2, 0) := by decide +kernel
theorem mr_6_76 : mr 6 76 = some (65, 3, 0) := by decide +kernel
theorem mr_6_100 : mr 6 100 = some (273, 0, 0) := by decide +kernel
theorem mr_6_106 : mr 6 106 = some (274, 1, 0) := by decide +kernel
theorem mr_6_47 : mr 6 47 = some (69, 2, 0) := by decide +kernel
theorem mr_6_51 : mr 6 51 = some (78, 1, 0) := by decide +kernel
theorem mr_6_119 : mr 6 119 = some (77, 1, 0) := by decide +kernel
theorem mr_6_122 : mr 6 122 = some (79, 0, 0) := by decide +kernel
theorem mr_6_134 : mr 6 134 = some (80, 0, 0) := by decide +kernel
theorem mr_6_113 : mr 6 113 = some (70, 1, 0) := by decide +kernel
theorem mr_6_116 : mr 6 116 = some (71, 1, 0) := by decide +kernel
theorem mr_6_128 : mr 6 128 = some (72, 1, 0) := by decide +kernel
theorem mr_6_131 : mr 6 131 = some (73, 1, 0) := by decide +kernel
theorem mr_6_137 : mr 6 137 = some (74, 1, 0) := by decide +kernel
theorem mr_6_140 : mr 6 140 = some (75, 1, 0) := by decide +kernel
theorem mr_6_143 : mr 6 143 = some (76, 1, 0) := by decide +kernel
theorem mr_6_146 : mr 6 146 = some (66, 1, 0) := by decide +kernel
theorem mr_6_125 : mr 6 125 = some (81, 1, 0) := by decide +kernel
theorem mr_6_149 : mr 6 149 = some (59, 1, 1) := by decide +kernel
theorem mr_6_24 : mr 6 24 = some (157, 3, 1) := by decide +kernel
theorem mr_11_34 : mr 11 34 = some (12, 3, 2) := by decide +kernel
theorem mr_1_3 : mr 1 3 = some (999, 0, 2) := by decide +kernel
theorem mr_11_43 : mr 11 43 = some (0, 1, 2) := by decide +kernel
theorem mr_0_3 : mr 0 3 = some (999, 0, 2) := by decide +kernel
theorem mr_11_52 : mr 11 52 = some (88, 2, 2) := by decide +kernel
theorem mr_8_3 : mr 8 3 = some (999, 0, 2) := by decide +kernel
theorem mr_11_61 : mr 11 61 = some (45, 2, 2) := by decide +kernel
theorem mr_5_3 : mr 5 3 = some (999, 0, 2) := by decide +kernel
theorem mr_11_70 : mr 11 70 = some (36, 0, 2) := by decide +kernel
theorem mr_4_3 : mr 4 3 = some (999, 0, 2) := by decide +kernel
theorem mr_11_77 : mr 11 77 = some (82, 0, 2) := by decide +kernel
theorem mr_7_1 : mr 7 1 = some (999, 0, 2) := by decide +kernel
theorem mr_13_13 : mr 13 13 = some (108, 2, 0) := by decide +kernel
theorem mr_11_82 : mr 11 82 = some (158, 1, 1) := by decide +kernel
theorem mr_11_86 : mr 11 86 = some (157, 3, 1) := by decide +kernel
theorem mr_13_18 : mr 13 18 = some (109, 2, 0) := by decide +kernel
theorem mr_13_22 : mr 13 22 = some (110, 2, 0) := by decide +kernel
theorem mr_13_26 : mr 13 26 = some (111, 2, 0) := by decide +kernel
theorem mr_11_104 : mr 11 104 = some (101, 1, 0) := by decide +kernel
theorem mr_11_108 : mr 11 108 = some (102, 1, 0) := by decide +kernel
theorem mr_11_111 : mr 11 111 = some (103, 1, 0) := by decide +kernel
theorem mr_10_28 : mr 10 28 = some (102, 1, 0) := by decide +kernel
theorem mr_11_114 : mr 11 114 = some (167, 1, 1) := by decide +kernel
theorem mr_13_30 : mr 13 30 = some (112, 4, 0) := by decide +kernel
theorem mr_11_118 : mr 11 118 = some (163, 1, 1) := by decide +kernel
theorem mr_11_121 : mr 11 121 = some (160, 1, 1) := by decide +kernel
theorem mr_11_124 : mr 11 124 = some (27, 4, 0) := by decide +kernel
theorem mr_3_26 : mr 3 26 = some (23, 4, 0) := by decide +kernel
theorem mr_2_18 : mr 2 18 = some (163, 1, 1) := by decide +kernel
theorem mr_13_35 : mr 13 35 = some (113, 2, 0) := by decide +kernel
theorem mr_11_128 : mr 11 128 = some (28, 1, 0) := by decide +kernel
theorem mr_3_30 : mr 3 30 = some (157, 3, 1) := by decide +kernel
theorem mr_11_140 : mr 11 140 = some (21, 2, 1) := by decide +kernel
theorem mr_11_144 : mr 11 144 = some (24, 1, 0) := by decide +kernel
theorem mr_13_39 : mr 13 39 = some (114, 2, 0) := by decide +kernel
theorem mr_11_147 : mr 11 147 = some (162, 1, 1) := by decide +kernel
theorem mr_13_43 : mr 13 43 = some (115, 2, 0) := by decide +kernel
theorem mr_13_47 : mr 13 47 = some (116, 2, 0) := by decide +kernel
theorem mr_11_166 : mr 11 166 = some (159, 1, 1) := by decide +kernel
theorem mr_11_169 : mr 11 169 = some (25, 1, 0) := by decide +kernel
theorem mr_13_51 : mr 13 51 = some (117, 2, 0) := by decide +kernel
theorem mr_11_172 : mr 11 172 = some (31, 2, 0) := by decide +kernel
theorem mr_3_52 : mr 3 52 = some (25, 1, 0) := by decide +kernel
theorem mr_3_59 : mr 3 59 = some (104, 3, 0) := by decide +kernel
theorem mr_10_32 : mr 10 32 = some (169, 1, 1) := by decide +kernel
theorem mr_10_36 : mr 10 36 = some (22, 3, 1) := by decide +kernel
theorem mr_10_45 : mr 10 45 = some (271, 2, 1) := by decide +kernel
theorem mr_13_55 : mr 13 55 = some (118, 2, 0) := by decide +kernel
theorem mr_11_178 : mr 11 178 = some (33, 2, 0) := by decide +kernel
theorem mr_3_71 : mr 3 71 = some (31, 2, 0) := by decide +kernel
theorem mr_3_75 : mr 3 75 = some (106, 2, 0) := by decide +kernel
theorem mr_10_54 : mr 10 54 = some (105, 3, 0) := by decide +kernel
theorem mr_10_51 : mr 10 51 = some (270, 1, 1) := by decide +kernel
theorem mr_13_60 : mr 13 60 = some (119, 2, 0) := by decide +kernel
theorem mr_11_182 : mr 11 182 = some (34, 2, 0) := by decide +kernel
theorem mr_3_79 : mr 3 79 = some (33, 2, 0) := by decide +kernel
theorem mr_13_66 : mr 13 66 = some (120, 2, 0) := by decide +kernel
theorem mr_11_185 : mr 11 185 = some (95, 2, 0) := by decide +kernel
theorem mr_13_71 : mr 13 71 = some (121, 0, 0) := by decide +kernel
theorem mr_11_189 : mr 11 189 = some (96, 0, 0) := by decide +kernel
theorem mr_13_76 : mr 13 76 = some (122, 2, 0) := by decide +kernel
theorem mr_11_193 : mr 11 193 = some (94, 1, 0) := by decide +kernel
theorem mr_9_63 : mr 9 63 = some (157, 3, 1) := by decide +kernel
theorem mr_13_80 : mr 13 80 = some (123, 4, 0) := by decide +kernel
theorem mr_11_197 : mr 11 197 = some (13, 4, 0) := by decide +kernel
theorem mr_1_35 : mr 1 35 = some (25, 1, 0) := by decide +kernel
theorem mr_1_45 : mr 1 45 = some (17, 2, 0) := by decide +kernel
theorem mr_1_49 : mr 1 49 = some (18, 2, 0) := by decide +kernel
theorem mr_1_103 : mr 1 103 = some (102, 1, 0) := by decide +kernel
theorem mr_1_99 : mr 1 99 = some (19, 2, 0) := by decide +kernel
theorem mr_1_106 : mr 1 106 = some (161, 1, 1) := by decide +kernel
theorem mr_1_109 : mr 1 109 = some (101, 1, 0) := by decide +kernel
theorem mr_1_53 : mr 1 53 = some (103, 1, 0) := by decide +kernel
theorem mr_1_59 : mr 1 59 = some (167, 1, 1) := by decide +kernel
theorem mr_1_74 : mr 1 74 = some (97, 3, 0) := by decide +kernel
theorem mr_9_73 : mr 9 73 = some (59, 1, 1) := by decide +kernel
theorem mr_9_77 : mr 9 77 = some (98, 2, 1) := by decide +kernel
theorem mr_9_84 : mr 9 84 = some (167, 1, 1) := by decide +kernel
theorem mr_9_80 : mr 9 80 = some (99, 3, 1) := by decide +kernel
theorem mr_13_85 : mr 13 85 = some (124, 2, 0) := by decide +kernel
theorem mr_11_200 : mr 11 200 = some (14, 1, 0) := by decide +kernel
theorem mr_1_85 : mr 1 85 = some (13, 4, 0) := by decide +kernel
theorem mr_11_203 : mr 11 203 = some (15, 2, 0) := by decide +kernel
theorem mr_1_88 : mr 1 88 = some (14, 1, 0) := by decide +kernel
theorem mr_1_91 : mr 1 91 = some (34, 2, 0) := by decide +kernel
theorem mr_1_95 : mr 1 95 = some (166, 2, 1) := by decide +kernel
theorem mr_13_89 : mr 13 89 = some (125, 1, 0) := by decide +kernel
theorem mr_11_206 : mr 11 206 = some (16, 1, 0) := by decide +kernel
theorem mr_13_94 : mr 13 94 = some (126, 5, 0) := by decide +kernel
theorem mr_11_209 : mr 11 209 = some (37, 5, 0) := by decide +kernel
theorem mr_13_99 : mr 13 99 = some (127, 3, 0) := by decide +kernel
theorem mr_11_213 : mr 11 213 = some (38, 3, 0) := by decide +kernel
theorem mr_13_104 : mr 13 104 = some (128, 3, 0) := by decide +kernel
theorem mr_11_217 : mr 11 217 = some (1, 3, 0) := by decide +kernel
theorem mr_13_108 : mr 13 108 = some (129, 4, 0) := by decide +kernel
theorem mr_11_220 : mr 11 220 = some (2, 4, 0) := by decide +kernel
theorem mr_13_112 : mr 13 112 = some (130, 1, 0) := by decide +kernel
theorem mr_11_227 : mr 11 227 = some (4, 1, 0) := by decide +kernel
theorem mr_0_60 : mr 0 60 = some (166, 2, 1) := by decide +kernel
theorem mr_0_64 : mr 0 64 = some (268, 1, 1) := by decide +kernel
theorem mr_13_116 : mr 13 116 = some (131, 2, 0) := by decide +kernel
theorem mr_11_233 : mr 11 233 = some (5, 2, 0) := by decide +kernel
theorem mr_0_70 : mr 0 70 = some (11, 4, 0) := by decide +kernel
theorem mr_0_112 : mr 0 112 = some (35, 4, 0) := by decide +kernel
theorem mr_3_82 : mr 3 82 = some (168, 2, 1) := by decide +kernel
theorem mr_11_378 : mr 11 378 = some (270, 1, 1) := by decide +kernel
theorem mr_11_383 : mr 11 383 = some (271, 2, 1) := by decide +kernel
theorem mr_0_115 : mr 0 115 = some (32, 3, 0) := by decide +kernel
theorem mr_3_65 : mr 3 65 = some (105, 3, 0) := by decide +kernel
theorem mr_13_120 : mr 13 120 = some (132, 0, 0) := by decide +kernel
theorem mr_11_236 : mr 11 236 = some (6, 0, 0) := by decide +kernel
theorem mr_0_74 : mr 0 74 = some (10, 2, 0) := by decide +kernel
theorem mr_0_106 : mr 0 106 = some (5, 2, 0) := by decide +kernel
theorem mr_0_77 : mr 0 77 = some (167, 1, 1) := by decide +kernel
theorem mr_13_124 : mr 13 124 = some (133, 3, 0) := by decide +kernel
theorem mr_11_239 : mr 11 239 = some (7, 4, 0) := by decide +kernel
theorem mr_0_81 : mr 0 81 = some (271, 2, 1) := by decide +kernel
theorem mr_13_128 : mr 13 128 = some (134, 1, 0) := by decide +kernel
theorem mr_11_242 : mr 11 242 = some (8, 2, 0) := by decide +kernel
theorem mr_0_102 : mr 0 102 = some (7, 4, 0) := by decide +kernel
theorem mr_13_132 : mr 13 132 = some (135, 3, 0) := by decide +kernel
theorem mr_11_245 : mr 11 245 = some (165, 2, 1) := by decide +kernel
theorem mr_11_251 : mr 11 251 = some (3, 3, 0) := by decide +kernel
theorem mr_13_136 : mr 13 136 = some (136, 0, 0) := by decide +kernel
theorem mr_11_254 : mr 11 254 = some (9, 0, 0) := by decide +kernel
theorem mr_13_140 : mr 13 140 = some (137, 2, 0) := by decide +kernel
theorem mr_13_144 : mr 13 144 = some (138, 3, 0) := by decide +kernel
theorem mr_11_257 : mr 11 257 = some (29, 1, 0) := by decide +kernel
theorem mr_3_34 : mr 3 34 = some (28, 1, 0) := by decide +kernel
theorem mr_3_41 : mr 3 41 = some (161, 1, 1) := by decide +kernel
theorem mr_11_260 : mr 11 260 = some (30, 0, 0) := by decide +kernel
theorem mr_3_48 : mr 3 48 = some (167, 1, 1) := by decide +kernel
theorem mr_11_263 : mr 11 263 = some (89, 4, 0) := by decide +kernel
theorem mr_8_19 : mr 8 19 = some (91, 3, 0) := by decide +kernel
theorem mr_8_52 : mr 8 52 = some (161, 1, 1) := by decide +kernel
theorem mr_8_60 : mr 8 60 = some (166, 2, 1) := by decide +kernel
theorem mr_8_64 : mr 8 64 = some (92, 3, 0) := by decide +kernel
theorem mr_8_72 : mr 8 72 = some (25, 1, 0) := by decide +kernel
theorem mr_8_75 : mr 8 75 = some (35, 4, 0) := by decide +kernel
theorem mr_8_67 : mr 8 67 = some (13, 4, 0) := by decide +kernel
theorem mr_13_148 : mr 13 148 = some (139, 4, 0) := by decide +kernel
theorem mr_11_269 : mr 11 269 = some (268, 1, 1) := by decide +kernel
theorem mr_11_274 : mr 11 274 = some (90, 4, 0) := by decide +kernel
theorem mr_8_23 : mr 8 23 = some (30, 0, 0) := by decide +kernel
theorem mr_8_29 : mr 8 29 = some (268, 1, 1) := by decide +kernel
theorem mr_8_35 : mr 8 35 = some (89, 4, 0) := by decide +kernel
theorem mr_13_152 : mr 13 152 = some (140, 1, 0) := by decide +kernel
theorem mr_11_277 : mr 11 277 = some (46, 1, 0) := by decide +kernel
theorem mr_13_156 : mr 13 156 = some (141, 3, 0) := by decide +kernel
theorem mr_11_283 : mr 11 283 = some (47, 2, 0) := by decide +kernel
theorem mr_5_38 : mr 5 38 = some (49, 1, 0) := by decide +kernel
theorem mr_5_63 : mr 5 63 = some (104, 3, 0) := by decide +kernel
theorem mr_5_69 : mr 5 69 = some (106, 2, 0) := by decide +kernel
theorem mr_5_42 : mr 5 42 = some (268, 1, 1) := by decide +kernel
theorem mr_5_48 : mr 5 48 = some (48, 1, 0) := by decide +kernel
theorem mr_5_57 : mr 5 57 = some (166, 2, 1) := by decide +kernel
theorem mr_5_52 : mr 5 52 = some (269, 1, 1) := by decide +kernel
theorem mr_11_286 : mr 11 286 = some (48, 1, 0) := by decide +kernel
theorem mr_11_290 : mr 11 290 = some (269, 1, 1) := by decide +kernel
theorem mr_13_160 : mr 13 160 = some (142, 3, 0) := by decide +kernel
theorem mr_11_295 : mr 11 295 = some (51, 1, 0) := by decide +kernel
theorem mr_5_92 : mr 5 92 = some (165, 2, 1) := by decide +kernel
theorem mr_5_78 : mr 5 78 = some (53, 1, 0) := by decide +kernel
theorem mr_5_117 : mr 5 117 = some (21, 2, 1) := by decide +kernel
theorem mr_5_95 : mr 5 95 = some (161, 1, 1) := by decide +kernel
theorem mr_11_298 : mr 11 298 = some (52, 3, 0) := by decide +kernel
theorem mr_5_98 : mr 5 98 = some (54, 1, 0) := by decide +kernel
theorem mr_5_101 : mr 5 101 = some (55, 1, 0) := by decide +kernel
theorem mr_5_124 : mr 5 124 = some (50, 1, 0) := by decide +kernel
theorem mr_5_127 : mr 5 127 = some (56, 1, 0) := by decide +kernel
theorem mr_5_130 : mr 5 130 = some (270, 1, 1) := by decide +kernel
theorem mr_5_111 : mr 5 111 = some (57, 1, 0) := by decide +kernel
theorem mr_5_107 : mr 5 107 = some (157, 3, 1) := by decide +kernel
theorem mr_13_164 : mr 13 164 = some (143, 1, 0) := by decide +kernel
theorem mr_11_301 : mr 11 301 = some (50, 1, 0) := by decide +kernel
theorem mr_13_168 : mr 13 168 = some (144, 3, 0) := by decide +kernel
theorem mr_11_304 : mr 11 304 = some (161, 1, 1) := by decide +kernel
theorem mr_11_307 : mr 11 307 = some (39, 3, 0) := by decide +kernel
theorem mr_13_172 : mr 13 172 = some (145, 2, 0) := by decide +kernel
theorem mr_11_310 : mr 11 310 = some (40, 1, 0) := by decide +kernel
theorem mr_4_50 : mr 4 50 = some (157, 3, 1) := by decide +kernel
theorem mr_11_316 : mr 11 316 = some (41, 2, 0) := by decide +kernel
theorem mr_13_176 : mr 13 176 = some (146, 1, 0) := by decide +kernel
theorem mr_11_319 : mr 11 319 = some (42, 1, 0) := by decide +kernel
theorem mr_13_180 : mr 13 180 = some (147, 1, 0) := by decide +kernel
theorem mr_11_322 : mr 11 322 = some (43, 1, 0) := by decide +kernel
theorem mr_13_184 : mr 13 184 = some (148, 3, 0) := by decide +kernel
theorem mr_11_325 : mr 11 325 = some (44, 3, 0) := by decide +kernel
theorem mr_4_54 : mr 4 54 = some (167, 1, 1) := by decide +kernel
theorem mr_13_188 : mr 13 188 = some (149, 1, 0) := by decide +kernel
theorem mr_13_193 : mr 13 193 = some (150, 1, 0) := by decide +kernel
theorem mr_13_197 : mr 13 197 = some (151, 3, 0) := by decide +kernel
theorem mr_11_345 : mr 11 345 = some (164, 1, 1) := by decide +kernel
theorem mr_11_348 : mr 11 348 = some (86, 2, 0) := by decide +kernel
theorem mr_7_26 : mr 7 26 = some (283, 2, 1) := by decide +kernel
theorem mr_13_201 : mr 13 201 = some (152, 3, 0) := by decide +kernel
theorem mr_11_351 : mr 11 351 = some (83, 0, 0) := by decide +kernel
theorem mr_11_355 : mr 11 355 = some (84, 1, 0) := by decide +kernel
theorem mr_7_20 : mr 7 20 = some (157, 3, 1) := by decide +kernel
theorem mr_11_356 : mr 11 356 = some (87, 2, 0) := by decide +kernel
theorem mr_13_205 : mr 13 205 = some (153, 5, 0) := by decide +kernel
theorem mr_11_362 : mr 11 362 = some (85, 2, 0) := by decide +kernel
theorem mr_11_368 : mr 11 368 = some (998, 5, 1) := by decide +kernel
theorem mr_13_209 : mr 13 209 = some (154, 5, 0) := by decide +kernel
theorem mr_11_374 : mr 11 374 = some (156, 4, 0) := by decide +kernel
theorem mr_13_213 : mr 13 213 = some (155, 2, 0) := by decide +kernel
theorem mr_13_12 : mr 13 12 = some (171, 0, 2) := by decide +kernel
theorem mr_12_1 : mr 12 1 = some (999, 0, 2) := by decide +kernel
theorem mr_12_215 : mr 12 215 = some (200, 0, 0) := by decide +kernel
theorem mr_13_17 : mr 13 17 = some (174, 2, 0) := by decide +kernel
theorem mr_12_222 : mr 12 222 = some (172, 1, 0) := by decide +kernel
theorem mr_12_218 : mr 12 218 = some (170, 3, 0) := by decide +kernel
theorem mr_13_21 : mr 13 21 = some (175, 2, 0) := by decide +kernel
theorem mr_13_25 : mr 13 25 = some (176, 2, 0) := by decide +kernel
theorem mr_13_29 : mr 13 29 = some (179, 2, 0) := by decide +kernel
theorem mr_12_226 : mr 12 226 = some (177, 1, 0) := by decide +kernel
theorem mr_12_230 : mr 12 230 = some (178, 1, 0) := by decide +kernel
theorem mr_13_34 : mr 13 34 = some (184, 4, 0) := by decide +kernel
theorem mr_13_38 : mr 13 38 = some (186, 2, 0) := by decide +kernel
theorem mr_12_236 : mr 12 236 = some (183, 1, 0) := by decide +kernel
theorem mr_12_239 : mr 12 239 = some (185, 2, 0) := by decide +kernel
theorem mr_13_42 : mr 13 42 = some (187, 2, 0) := by decide +kernel
theorem mr_13_46 : mr 13 46 = some (189, 2, 0) := by decide +kernel
theorem mr_12_243 : mr 12 243 = some (188, 1, 0) := by decide +kernel
theorem mr_13_50 : mr 13 50 = some (191, 2, 0) := by decide +kernel
theorem mr_12_246 : mr 12 246 = some (173, 1, 0) := by decide +kernel
theorem mr_12_249 : mr 12 249 = some (190, 2, 0) := by decide +kernel
theorem mr_13_54 : mr 13 54 = some (193, 2, 0) := by decide +kernel
theorem mr_12_256 : mr 12 256 = some (192, 3, 0) := by decide +kernel
theorem mr_12_253 : mr 12 253 = some (182, 1, 0) := by decide +kernel
theorem mr_13_59 : mr 13 59 = some (197, 2, 0) := by decide +kernel
theorem mr_12_270 : mr 12 270 = some (196, 2, 0) := by decide +kernel
theorem mr_12_266 : mr 12 266 = some (195, 3, 0) := by decide +kernel
theorem mr_12_260 : mr 12 260 = some (181, 2, 0) := by decide +kernel
theorem mr_12_233 : mr 12 233 = some (180, 1, 0) := by decide +kernel
theorem mr_12_263 : mr 12 263 = some (194, 2, 0) := by decide +kernel
theorem mr_13_63 : mr 13 63 = some (199, 2, 0) := by decide +kernel
theorem mr_12_276 : mr 12 276 = some (198, 2, 0) := by decide +kernel
theorem mr_13_70 : mr 13 70 = some (201, 2, 0) := by decide +kernel
theorem mr_13_75 : mr 13 75 = some (217, 0, 0) := by decide +kernel
theorem mr_12_350 : mr 12 350 = some (216, 0, 0) := by decide +kernel
theorem mr_12_339 : mr 12 339 = some (206, 0, 0) := by decide +kernel
theorem mr_12_281 : mr 12 281 = some (202, 1, 0) := by decide +kernel
theorem mr_12_310 : mr 12 310 = some (205, 0, 0) := by decide +kernel
theorem mr_12_286 : mr 12 286 = some (204, 1, 0) := by decide +kernel
theorem mr_12_313 : mr 12 313 = some (203, 1, 0) := by decide +kernel
theorem mr_12_323 : mr 12 323 = some (207, 1, 0) := by decide +kernel
theorem mr_12_346 : mr 12 346 = some (215, 0, 0) := by decide +kernel
theorem mr_12_329 : mr 12 329 = some (213, 1, 0) := by decide +kernel
theorem mr_12_326 : mr 12 326 = some (208, 1, 0) := by decide +kernel
theorem mr_12_333 : mr 12 333 = some (212, 1, 0) := by decide +kernel
theorem mr_12_319 : mr 12 319 = some (209, 1, 0) := by decide +kernel
theorem mr_12_336 : mr 12 336 = some (211, 1, 0) := by decide +kernel
theorem mr_12_316 : mr 12 316 = some (210, 1, 0) := by decide +kernel
theorem mr_12_342 : mr 12 342 = some (214, 0, 0) := by decide +kernel
theorem mr_13_79 : mr 13 79 = some (218, 2, 0) := by decide +kernel
theorem mr_13_84 : mr 13 84 = some (222, 4, 0) := by decide +kernel
theorem mr_12_359 : mr 12 359 = some (221, 4, 0) := by decide +kernel
theorem mr_12_356 : mr 12 356 = some (220, 2, 0) := by decide +kernel
theorem mr_12_353 : mr 12 353 = some (219, 3, 0) := by decide +kernel
theorem mr_13_88 : mr 13 88 = some (223, 2, 0) := by decide +kernel
theorem mr_13_93 : mr 13 93 = some (224, 1, 0) := by decide +kernel
theorem mr_13_98 : mr 13 98 = some (225, 5, 0) := by decide +kernel
theorem mr_13_103 : mr 13 103 = some (226, 3, 0) := by decide +kernel
theorem mr_13_107 : mr 13 107 = some (228, 3, 0) := by decide +kernel
theorem mr_13_111 : mr 13 111 = some (231, 4, 0) := by decide +kernel
theorem mr_13_115 : mr 13 115 = some (232, 1, 0) := by decide +kernel
theorem mr_13_119 : mr 13 119 = some (234, 2, 0) := by decide +kernel
theorem mr_12_370 : mr 12 370 = some (227, 1, 0) := by decide +kernel
theorem mr_12_373 : mr 12 373 = some (233, 2, 0) := by decide +kernel
theorem mr_12_366 : mr 12 366 = some (230, 4, 0) := by decide +kernel
theorem mr_12_363 : mr 12 363 = some (229, 1, 0) := by decide +kernel
theorem mr_13_123 : mr 13 123 = some (235, 0, 0) := by decide +kernel
theorem mr_13_127 : mr 13 127 = some (237, 3, 0) := by decide +kernel
theorem mr_12_376 : mr 12 376 = some (235, 0, 0) := by decide +kernel
theorem mr_12_379 : mr 12 379 = some (236, 4, 0) := by decide +kernel
theorem mr_13_131 : mr 13 131 = some (238, 1, 0) := by decide +kernel
theorem mr_13_135 : mr 13 135 = some (239, 3, 0) := by decide +kernel
theorem mr_13_139 : mr 13 139 = some (240, 0, 0) := by decide +kernel
theorem mr_13_143 : mr 13 143 = some (241, 2, 0) := by decide +kernel
theorem mr_13_147 : mr 13 147 = some (244, 3, 0) := by decide +kernel
theorem mr_12_382 : mr 12 382 = some (243, 2, 0) := by decide +kernel
theorem mr_12_385 : mr 12 385 = some (242, 4, 0) := by decide +kernel
theorem mr_13_151 : mr 13 151 = some (246, 4, 0) := by decide +kernel
theorem mr_12_388 : mr 12 388 = some (245, 1, 0) := by decide +kernel
theorem mr_13_155 : mr 13 155 = some (247, 1, 0) := by decide +kernel
theorem mr_13_159 : mr 13 159 = some (250, 3, 0) := by decide +kernel
theorem mr_12_395 : mr 12 395 = some (249, 1, 0) := by decide +kernel
theorem mr_12_391 : mr 12 391 = some (248, 1, 0) := by decide +kernel
theorem mr_13_167 : mr 13 167 = some (252, 1, 0) := by decide +kernel
theorem mr_12_398 : mr 12 398 = some (251, 2, 0) := by decide +kernel
theorem mr_13_163 : mr 13 163 = some (254, 3, 0) := by decide +kernel
theorem mr_12_401 : mr 12 401 = some (253, 1, 0) := by decide +kernel
theorem mr_13_171 : mr 13 171 = some (255, 3, 0) := by decide +kernel
theorem mr_13_175 : mr 13 175 = some (256, 2, 0) := by decide +kernel
theorem mr_13_179 : mr 13 179 = some (257, 1, 0) := by decide +kernel
theorem mr_13_183 : mr 13 183 = some (258, 1, 0) := by decide +kernel
theorem mr_13_187 : mr 13 187 = some (259, 3, 0) := by decide +kernel
theorem mr_13_192 : mr 13 192 = some (260, 1, 0) := by decide +kernel
theorem mr_13_196 : mr 13 196 = some (261, 1, 0) := by decide +kernel
theorem mr_13_200 : mr 13 200 = some (263, 3, 0) := by decide +kernel
theorem mr_12_406 : mr 12 406 = some (262, 1, 0) := by decide +kernel
theorem mr_13_204 : mr 13 204 = some (264, 3, 0) := by decide +kernel
theorem mr_13_208 : mr 13 208 = some (265, 5, 0) := by decide +kernel
theorem mr_13_212 : mr 13 212 = some (266, 5, 0) := by decide +kernel
theorem mr_12_409 : mr 12 409 = some (174, 2, 0) := by decide +kernel
theorem mr_13_216 : mr 13 216 = some (267, 2, 0) := by decide +kernel
/-! field references: class, place in its pool, the field's class, its place there; place of the link's word -/
def frL_0 : List (Nat × Nat × Nat × Nat × Nat) := [(10, 9, 10, 0, 1040), (11, 90, 10, 0, 1041), (10, 15, 10, 1, 1042), (11, 94, 10, 1, 1043), (10, 18, 10, 2, 1044), (11, 97, 10, 2, 1045), (11, 101, 10, 3, 1046), (10, 42, 10, 3, 1047), (1, 63, 2, 0, 1071), (2, 22, 2, 0, 1072), (3, 56, 2, 0, 1073), (11, 135, 2, 0, 1074), (5, 114, 2, 0, 1075), (1, 66, 2, 1, 1076), (2, 26, 2, 1, 1077), (3, 38, 2, 1, 1078), (8, 47, 2, 1, 1079), (5, 86, 2, 1, 1080), (11, 154, 2, 1, 1081), (1, 41, 2, 2, 1082), (2, 32, 2, 2, 1083), (5, 89, 2, 2, 1084), (11, 157, 2, 2, 1085), (2, 38, 2, 3, 1086), (11, 160, 2, 3, 1087), (3, 85, 2, 3, 1088), (1, 81, 2, 4, 1089), (8, 56, 2, 4, 1090), (3, 68, 2, 4, 1091), (11, 150, 2, 4, 1092), (5, 120, 2, 4, 1093), (0, 96, 2, 4, 1094), (3, 44, 2, 5, 1095), (11, 163, 2, 5, 1096), (2, 29, 2, 6, 1097), (2, 11, 2, 7, 1098), (2, 41, 2, 8, 1099), (3, 13, 3, 0, 1119), (1, 29, 3, 0, 1120), (8, 43, 3, 0, 1121), (5, 82, 3, 0, 1122), (11, 131, 3, 0, 1123), (0, 92, 3, 0, 1124), (3, 22, 3, 1, 1125), (1, 78, 3, 1, 1126), (8, 39, 3, 1, 1127), (5, 73, 3, 1, 1128), (0, 87, 3, 1, 1129), (11, 266, 3, 1, 1130), (3, 17, 3, 2, 1131), (6, 9, 6, 0, 1153), (6, 34, 6, 1, 1154), (6, 18, 6, 2, 1155), (6, 21, 6, 3, 1156), (6, 55, 6, 4, 1157), (6, 41, 6, 5, 1158), (6, 44, 6, 6, 1159), (6, 15, 6, 7, 1160), (6, 110, 6, 8, 1161), (9, 9, 9, 0, 2103), (1, 69, 9, 0, 2104), (11, 194, 9, 0, 2105), (9, 60, 9, 1, 2106), (11, 341, 9, 1, 2107), (9, 49, 9, 2, 2108), (11, 342, 9, 2, 2109), (9, 15, 9, 3, 2110), (9, 20, 9, 4, 2111), (9, 23, 9, 5, 2112), (9, 31, 9, 6, 2113), (1, 17, 1, 0, 2136), (1, 21, 1, 1, 2137), (1, 25, 1, 2, 2138), (1, 11, 1, 3, 2139), (0, 47, 0, 0, 2155), (11, 230, 0, 0, 2156), (0, 51, 0, 1, 2157), (11, 224, 0, 1, 2158), (0, 54, 0, 2, 2159), (11, 248, 0, 2, 2160)]
def frL_1 : List (Nat × Nat × Nat × Nat × Nat) := [(0, 43, 0, 3, 2161), (0, 11, 0, 4, 2162), (0, 15, 0, 5, 2163), (0, 18, 0, 6, 2164), (0, 21, 0, 7, 2165), (0, 24, 0, 8, 2166), (0, 27, 0, 9, 2167), (0, 30, 0, 10, 2168), (0, 57, 0, 11, 2169), (0, 34, 0, 12, 2170), (0, 37, 0, 13, 2171), (0, 40, 0, 14, 2172), (8, 9, 8, 0, 2211), (8, 15, 8, 1, 2212), (5, 34, 5, 0, 2224), (11, 280, 5, 0, 2225), (5, 26, 5, 1, 2226), (5, 30, 5, 2, 2227), (5, 11, 5, 3, 2228), (5, 15, 5, 4, 2229), (5, 19, 5, 5, 2230), (5, 104, 5, 6, 2231), (5, 22, 5, 7, 2232), (4, 43, 4, 0, 3017), (11, 335, 4, 0, 3018), (4, 47, 4, 1, 3019), (11, 338, 4, 1, 3020), (4, 11, 4, 2, 3021), (11, 313, 4, 2, 3022), (4, 15, 4, 3, 3023), (11, 329, 4, 3, 3024), (4, 19, 4, 4, 3025), (4, 22, 4, 5, 3026), (4, 25, 4, 6, 3027), (4, 28, 4, 7, 3028), (4, 31, 4, 8, 3029), (4, 34, 4, 9, 3030), (4, 37, 4, 10, 3031), (4, 40, 4, 11, 3032), (7, 9, 7, 0, 3065), (11, 359, 7, 0, 3066), (7, 13, 7, 1, 3067), (11, 365, 7, 1, 3068), (7, 17, 7, 2, 3069), (11, 10, 11, 0, 3077), (11, 21, 11, 1, 3078), (11, 28, 11, 2, 3079), (11, 37, 11, 3, 3080), (11, 46, 11, 4, 3081), (11, 55, 11, 5, 3082), (11, 64, 11, 6, 3083), (11, 71, 11, 7, 3084), (11, 78, 11, 8, 3085), (12, 7, 12, 0, 5238), (12, 13, 12, 1, 5239), (12, 16, 12, 2, 6000), (12, 20, 12, 3, 6001), (12, 23, 12, 4, 6002), (12, 26, 12, 5, 6003), (12, 29, 12, 6, 6004), (12, 32, 12, 7, 6005), (12, 35, 12, 8, 6006), (12, 38, 12, 9, 6007), (12, 41, 12, 10, 6008), (12, 44, 12, 11, 6009), (12, 48, 12, 12, 6010), (12, 51, 12, 13, 6011), (12, 55, 12, 14, 6012), (12, 58, 12, 15, 6013), (12, 61, 12, 16, 6014), (12, 64, 12, 17, 6015), (12, 67, 12, 18, 6016), (12, 70, 12, 19, 6017), (12, 73, 12, 20, 6018), (12, 76, 12, 21, 6019), (12, 79, 12, 22, 6020), (12, 82, 12, 23, 6021), (12, 85, 12, 24, 6022), (12, 88, 12, 25, 6023), (12, 91, 12, 26, 6024)]
def frL_2 : List (Nat × Nat × Nat × Nat × Nat) := [(12, 94, 12, 27, 6025), (12, 97, 12, 28, 6026), (12, 100, 12, 29, 6027), (12, 103, 12, 30, 6028), (12, 106, 12, 31, 6029), (12, 109, 12, 32, 6030), (12, 112, 12, 33, 6031), (12, 115, 12, 34, 6032), (12, 118, 12, 35, 6033), (12, 121, 12, 36, 6034), (12, 124, 12, 37, 6035), (12, 127, 12, 38, 6036), (12, 130, 12, 39, 6037), (12, 133, 12, 40, 6038), (12, 136, 12, 41, 6039), (12, 139, 12, 42, 6040), (12, 142, 12, 43, 6041), (12, 145, 12, 44, 6042), (12, 148, 12, 45, 6043), (12, 151, 12, 46, 6044), (12, 154, 12, 47, 6045), (12, 157, 12, 48, 6046), (12, 160, 12, 49, 6047), (12, 163, 12, 50, 6048), (12, 166, 12, 51, 6049), (12, 169, 12, 52, 6050), (12, 172, 12, 53, 6051), (12, 176, 12, 54, 6052), (12, 179, 12, 55, 6053), (12, 182, 12, 56, 6054), (12, 185, 12, 57, 6055), (12, 188, 12, 58, 6056), (12, 191, 12, 59, 6057), (12, 194, 12, 60, 6058), (12, 197, 12, 61, 6059), (12, 200, 12, 62, 6060), (12, 203, 12, 63, 6061), (12, 206, 12, 64, 6062), (12, 209, 12, 65, 6063), (12, 212, 12, 66, 6064)]
def frL : List (Nat × Nat × Nat × Nat × Nat) := frL_0 ++ (frL_1 ++ (frL_2))
def fr (ci ix : Nat) : Option (Nat × Nat) := (frL.find? (fun q => q.1 == ci && q.2.1 == ix)).map (fun q => (q.2.2.1, q.2.2.2.1))
theorem fr_10_9 : fr 10 9 = some (10, 0) := by decide +kernel
theorem fr_11_90 : fr 11 90 = some (10, 0) := by decide +kernel
theorem fr_10_15 : fr 10 15 = some (10, 1) := by decide +kernel
theorem fr_11_94 : fr 11 94 = some (10, 1) := by decide +kernel
theorem fr_10_18 : fr 10 18 = some (10, 2) := by decide +kernel
theorem fr_11_97 : fr 11 97 = some (10, 2) := by decide +kernel
theorem fr_11_101 : fr 11 101 = some (10, 3) := by decide +kernel
theorem fr_10_42 : fr 10 42 = some (10, 3) := by decide +kernel
theorem fr_1_63 : fr 1 63 = some (2, 0) := by decide +kernel
theorem fr_2_22 : fr 2 22 = some (2, 0) := by decide +kernel
theorem fr_3_56 : fr 3 56 = some (2, 0) := by decide +kernel
theorem fr_11_135 : fr 11 135 = some (2, 0) := by decide +kernel
theorem fr_5_114 : fr 5 114 = some (2, 0) := by decide +kernel
theorem fr_1_66 : fr 1 66 = some (2, 1) := by decide +kernel
theorem fr_2_26 : fr 2 26 = some (2, 1) := by decide +kernel
theorem fr_3_38 : fr 3 38 = some (2, 1) := by decide +kernel
theorem fr_8_47 : fr 8 47 = some (2, 1) := by decide +kernel
theorem fr_5_86 : fr 5 86 = some (2, 1) := by decide +kernel
theorem fr_11_154 : fr 11 154 = some (2, 1) := by decide +kernel
theorem fr_1_41 : fr 1 41 = some (2, 2) := by decide +kernel
theorem fr_2_32 : fr 2 32 = some (2, 2) := by decide +kernel
theorem fr_5_89 : fr 5 89 = some (2, 2) := by decide +kernel
theorem fr_11_157 : fr 11 157 = some (2, 2) := by decide +kernel
theorem fr_2_38 : fr 2 38 = some (2, 3) := by decide +kernel
theorem fr_11_160 : fr 11 160 = some (2, 3) := by decide +kernel
theorem fr_3_85 : fr 3 85 = some (2, 3) := by decide +kernel
theorem fr_1_81 : fr 1 81 = some (2, 4) := by decide +kernel
theorem fr_8_56 : fr 8 56 = some (2, 4) := by decide +kernel
theorem fr_3_68 : fr 3 68 = some (2, 4) := by decide +kernel
theorem fr_11_150 : fr 11 150 = some (2, 4) := by decide +kernel
theorem fr_5_120 : fr 5 120 = some (2, 4) := by decide +kernel
theorem fr_0_96 : fr 0 96 = some (2, 4) := by decide +kernel
theorem fr_3_44 : fr 3 44 = some (2, 5) := by decide +kernel
theorem fr_11_163 : fr 11 163 = some (2, 5) := by decide +kernel
theorem fr_2_29 : fr 2 29 = some (2, 6) := by decide +kernel
theorem fr_2_11 : fr 2 11 = some (2, 7) := by decide +kernel
theorem fr_2_41 : fr 2 41 = some (2, 8) := by decide +kernel
theorem fr_3_13 : fr 3 13 = some (3, 0) := by decide +kernel
theorem fr_1_29 : fr 1 29 = some (3, 0) := by decide +kernel
theorem fr_8_43 : fr 8 43 = some (3, 0) := by decide +kernel
theorem fr_5_82 : fr 5 82 = some (3, 0) := by decide +kernel
theorem fr_11_131 : fr 11 131 = some (3, 0) := by decide +kernel
theorem fr_0_92 : fr 0 92 = some (3, 0) := by decide +kernel
theorem fr_3_22 : fr 3 22 = some (3, 1) := by decide +kernel
theorem fr_1_78 : fr 1 78 = some (3, 1) := by decide +kernel
theorem fr_8_39 : fr 8 39 = some (3, 1) := by decide +kernel
theorem fr_5_73 : fr 5 73 = some (3, 1) := by decide +kernel
theorem fr_0_87 : fr 0 87 = some (3, 1) := by decide +kernel
theorem fr_11_266 : fr 11 266 = some (3, 1) := by decide +kernel
theorem fr_3_17 : fr 3 17 = some (3, 2) := by decide +kernel
theorem fr_6_9 : fr 6 9 = some (6, 0) := by decide +kernel
theorem fr_6_34 : fr 6 34 = some (6, 1) := by decide +kernel
theorem fr_6_18 : fr 6 18 = some (6, 2) := by decide +kernel
theorem fr_6_21 : fr 6 21 = some (6, 3) := by decide +kernel
theorem fr_6_55 : fr 6 55 = some (6, 4) := by decide +kernel
theorem fr_6_41 : fr 6 41 = some (6, 5) := by decide +kernel
theorem fr_6_44 : fr 6 44 = some (6, 6) := by decide +kernel
theorem fr_6_15 : fr 6 15 = some (6, 7) := by decide +kernel
theorem fr_6_110 : fr 6 110 = some (6, 8) := by decide +kernel
theorem fr_9_9 : fr 9 9 = some (9, 0) := by decide +kernel
theorem fr_1_69 : fr 1 69 = some (9, 0) := by decide +kernel
theorem fr_11_194 : fr 11 194 = some (9, 0) := by decide +kernel
theorem fr_9_60 : fr 9 60 = some (9, 1) := by decide +kernel
theorem fr_11_341 : fr 11 341 = some (9, 1) := by decide +kernel
theorem fr_9_49 : fr 9 49 = some (9, 2) := by decide +kernel
theorem fr_11_342 : fr 11 342 = some (9, 2) := by decide +kernel
theorem fr_9_15 : fr 9 15 = some (9, 3) := by decide +kernel
theorem fr_9_20 : fr 9 20 = some (9, 4) := by decide +kernel
theorem fr_9_23 : fr 9 23 = some (9, 5) := by decide +kernel
theorem fr_9_31 : fr 9 31 = some (9, 6) := by decide +kernel
theorem fr_1_17 : fr 1 17 = some (1, 0) := by decide +kernel
theorem fr_1_21 : fr 1 21 = some (1, 1) := by decide +kernel
theorem fr_1_25 : fr 1 25 = some (1, 2) := by decide +kernel
theorem fr_1_11 : fr 1 11 = some (1, 3) := by decide +kernel
theorem fr_0_47 : fr 0 47 = some (0, 0) := by decide +kernel
theorem fr_11_230 : fr 11 230 = some (0, 0) := by decide +kernel
theorem fr_0_51 : fr 0 51 = some (0, 1) := by decide +kernel
theorem fr_11_224 : fr 11 224 = some (0, 1) := by decide +kernel
theorem fr_0_54 : fr 0 54 = some (0, 2) := by decide +kernel
theorem fr_11_248 : fr 11 248 = some (0, 2) := by decide +kernel
theorem fr_0_43 : fr 0 43 = some (0, 3) := by decide +kernel
theorem fr_0_11 : fr 0 11 = some (0, 4) := by decide +kernel
theorem fr_0_15 : fr 0 15 = some (0, 5) := by decide +kernel
theorem fr_0_18 : fr 0 18 = some (0, 6) := by decide +kernel
theorem fr_0_21 : fr 0 21 = some (0, 7) := by decide +kernel
theorem fr_0_24 : fr 0 24 = some (0, 8) := by decide +kernel
theorem fr_0_27 : fr 0 27 = some (0, 9) := by decide +kernel
theorem fr_0_30 : fr 0 30 = some (0, 10) := by decide +kernel
theorem fr_0_57 : fr 0 57 = some (0, 11) := by decide +kernel
theorem fr_0_34 : fr 0 34 = some (0, 12) := by decide +kernel
theorem fr_0_37 : fr 0 37 = some (0, 13) := by decide +kernel
theorem fr_0_40 : fr 0 40 = some (0, 14) := by decide +kernel
theorem fr_8_9 : fr 8 9 = some (8, 0) := by decide +kernel
theorem fr_8_15 : fr 8 15 = some (8, 1) := by decide +kernel
theorem fr_5_34 : fr 5 34 = some (5, 0) := by decide +kernel
theorem fr_11_280 : fr 11 280 = some (5, 0) := by decide +kernel
theorem fr_5_26 : fr 5 26 = some (5, 1) := by decide +kernel
theorem fr_5_30 : fr 5 30 = some (5, 2) := by decide +kernel
theorem fr_5_11 : fr 5 11 = some (5, 3) := by decide +kernel
theorem fr_5_15 : fr 5 15 = some (5, 4) := by decide +kernel
theorem fr_5_19 : fr 5 19 = some (5, 5) := by decide +kernel
theorem fr_5_104 : fr 5 104 = some (5, 6) := by decide +kernel
theorem fr_5_22 : fr 5 22 = some (5, 7) := by decide +kernel
theorem fr_4_43 : fr 4 43 = some (4, 0) := by decide +kernel
theorem fr_11_335 : fr 11 335 = some (4, 0) := by decide +kernel
theorem fr_4_47 : fr 4 47 = some (4, 1) := by decide +kernel
theorem fr_11_338 : fr 11 338 = some (4, 1) := by decide +kernel
theorem fr_4_11 : fr 4 11 = some (4, 2) := by decide +kernel
theorem fr_11_313 : fr 11 313 = some (4, 2) := by decide +kernel
theorem fr_4_15 : fr 4 15 = some (4, 3) := by decide +kernel
theorem fr_11_329 : fr 11 329 = some (4, 3) := by decide +kernel
theorem fr_4_19 : fr 4 19 = some (4, 4) := by decide +kernel
theorem fr_4_22 : fr 4 22 = some (4, 5) := by decide +kernel
theorem fr_4_25 : fr 4 25 = some (4, 6) := by decide +kernel
theorem fr_4_28 : fr 4 28 = some (4, 7) := by decide +kernel
theorem fr_4_31 : fr 4 31 = some (4, 8) := by decide +kernel
theorem fr_4_34 : fr 4 34 = some (4, 9) := by decide +kernel
theorem fr_4_37 : fr 4 37 = some (4, 10) := by decide +kernel
theorem fr_4_40 : fr 4 40 = some (4, 11) := by decide +kernel
theorem fr_7_9 : fr 7 9 = some (7, 0) := by decide +kernel
theorem fr_11_359 : fr 11 359 = some (7, 0) := by decide +kernel
theorem fr_7_13 : fr 7 13 = some (7, 1) := by decide +kernel
theorem fr_11_365 : fr 11 365 = some (7, 1) := by decide +kernel
theorem fr_7_17 : fr 7 17 = some (7, 2) := by decide +kernel
theorem fr_11_10 : fr 11 10 = some (11, 0) := by decide +kernel
theorem fr_11_21 : fr 11 21 = some (11, 1) := by decide +kernel
theorem fr_11_28 : fr 11 28 = some (11, 2) := by decide +kernel
theorem fr_11_37 : fr 11 37 = some (11, 3) := by decide +kernel
theorem fr_11_46 : fr 11 46 = some (11, 4) := by decide +kernel
theorem fr_11_55 : fr 11 55 = some (11, 5) := by decide +kernel
theorem fr_11_64 : fr 11 64 = some (11, 6) := by decide +kernel
theorem fr_11_71 : fr 11 71 = some (11, 7) := by decide +kernel
theorem fr_11_78 : fr 11 78 = some (11, 8) := by decide +kernel
theorem fr_12_7 : fr 12 7 = some (12, 0) := by decide +kernel
theorem fr_12_13 : fr 12 13 = some (12, 1) := by decide +kernel
theorem fr_12_16 : fr 12 16 = some (12, 2) := by decide +kernel
theorem fr_12_20 : fr 12 20 = some (12, 3) := by decide +kernel
theorem fr_12_23 : fr 12 23 = some (12, 4) := by decide +kernel
theorem fr_12_26 : fr 12 26 = some (12, 5) := by decide +kernel
theorem fr_12_29 : fr 12 29 = some (12, 6) := by decide +kernel
theorem fr_12_32 : fr 12 32 = some (12, 7) := by decide +kernel
theorem fr_12_35 : fr 12 35 = some (12, 8) := by decide +kernel
theorem fr_12_38 : fr 12 38 = some (12, 9) := by decide +kernel
theorem fr_12_41 : fr 12 41 = some (12, 10) := by decide +kernel
theorem fr_12_44 : fr 12 44 = some (12, 11) := by decide +kernel
theorem fr_12_48 : fr 12 48 = some (12, 12) := by decide +kernel
theorem fr_12_51 : fr 12 51 = some (12, 13) := by decide +kernel
theorem fr_12_55 : fr 12 55 = some (12, 14) := by decide +kernel
theorem fr_12_58 : fr 12 58 = some (12, 15) := by decide +kernel
theorem fr_12_61 : fr 12 61 = some (12, 16) := by decide +kernel
theorem fr_12_64 : fr 12 64 = some (12, 17) := by decide +kernel
theorem fr_12_67 : fr 12 67 = some (12, 18) := by decide +kernel
theorem fr_12_70 : fr 12 70 = some (12, 19) := by decide +kernel
theorem fr_12_73 : fr 12 73 = some (12, 20) := by decide +kernel
theorem fr_12_76 : fr 12 76 = some (12, 21) := by decide +kernel
theorem fr_12_79 : fr 12 79 = some (12, 22) := by decide +kernel
theorem fr_12_82 : fr 12 82 = some (12, 23) := by decide +kernel
theorem fr_12_85 : fr 12 85 = some (12, 24) := by decide +kernel
theorem fr_12_88 : fr 12 88 = some (12, 25) := by decide +kernel
theorem fr_12_91 : fr 12 91 = some (12, 26) := by decide +kernel
theorem fr_12_94 : fr 12 94 = some (12, 27) := by decide +kernel
theorem fr_12_97 : fr 12 97 = some (12, 28) := by decide +kernel
theorem fr_12_100 : fr 12 100 = some (12, 29) := by decide +kernel
theorem fr_12_103 : fr 12 103 = some (12, 30) := by decide +kernel
theorem fr_12_106 : fr 12 106 = some (12, 31) := by decide +kernel
theorem fr_12_109 : fr 12 109 = some (12, 32) := by decide +kernel
theorem fr_12_112 : fr 12 112 = some (12, 33) := by decide +kernel
theorem fr_12_115 : fr 12 115 = some (12, 34) := by decide +kernel
theorem fr_12_118 : fr 12 118 = some (12, 35) := by decide +kernel
theorem fr_12_121 : fr 12 121 = some (12, 36) := by decide +kernel
theorem fr_12_124 : fr 12 124 = some (12, 37) := by decide +kernel
theorem fr_12_127 : fr 12 127 = some (12, 38) := by decide +kernel
theorem fr_12_130 : fr 12 130 = some (12, 39) := by decide +kernel
theorem fr_12_133 : fr 12 133 = some (12, 40) := by decide +kernel
theorem fr_12_136 : fr 12 136 = some (12, 41) := by decide +kernel
theorem fr_12_139 : fr 12 139 = some (12, 42) := by decide +kernel
theorem fr_12_142 : fr 12 142 = some (12, 43) := by decide +kernel
theorem fr_12_145 : fr 12 145 = some (12, 44) := by decide +kernel
theorem fr_12_148 : fr 12 148 = some (12, 45) := by decide +kernel
theorem fr_12_151 : fr 12 151 = some (12, 46) := by decide +kernel
theorem fr_12_154 : fr 12 154 = some (12, 47) := by decide +kernel
theorem fr_12_157 : fr 12 157 = some (12, 48) := by decide +kernel
theorem fr_12_160 : fr 12 160 = some (12, 49) := by decide +kernel
theorem fr_12_163 : fr 12 163 = some (12, 50) := by decide +kernel
theorem fr_12_166 : fr 12 166 = some (12, 51) := by decide +kernel
theorem fr_12_169 : fr 12 169 = some (12, 52) := by decide +kernel
theorem fr_12_172 : fr 12 172 = some (12, 53) := by decide +kernel
theorem fr_12_176 : fr 12 176 = some (12, 54) := by decide +kernel
theorem fr_12_179 : fr 12 179 = some (12, 55) := by decide +kernel
theorem fr_12_182 : fr 12 182 = some (12, 56) := by decide +kernel
theorem fr_12_185 : fr 12 185 = some (12, 57) := by decide +kernel
theorem fr_12_188 : fr 12 188 = some (12, 58) := by decide +kernel
theorem fr_12_191 : fr 12 191 = some (12, 59) := by decide +kernel
theorem fr_12_194 : fr 12 194 = some (12, 60) := by decide +kernel
theorem fr_12_197 : fr 12 197 = some (12, 61) := by decide +kernel
theorem fr_12_200 : fr 12 200 = some (12, 62) := by decide +kernel
theorem fr_12_203 : fr 12 203 = some (12, 63) := by decide +kernel
theorem fr_12_206 : fr 12 206 = some (12, 64) := by decide +kernel
theorem fr_12_209 : fr 12 209 = some (12, 65) := by decide +kernel
theorem fr_12_212 : fr 12 212 = some (12, 66) := by decide +kernel
def grL : List (Nat × Nat × Nat × Nat) := [(2, 35, 1001, 3160), (2, 15, 1000, 3174), (0, 109, 1002, 4162)]
def gr (ci ix : Nat) : Option Nat := (grL.find? (fun q => q.1 == ci && q.2.1 == ix)).map (fun q => q.2.2.1)
theorem gr_2_35 : gr 2 35 = some 1001 := by decide +kernel
theorem gr_2_15 : gr 2 15 = some 1000 := by decide +kernel
theorem gr_0_109 : gr 0 109 = some 1002 := by decide +kernel
def klL : List (Nat × Nat × Int64 × Nat) := [(11, 176, -4611686018427387904, 3228), (9, 67, 255, 4022), (15, 314, 6148914691236517205, 5068), (15, 316, 3689348814741910323, 5069), (15, 318, 1085102592571150095, 5070), (4, 58, -1, 5166), (11, 333, -1, 5171), (12, 274, -4611686018427387904, 7068), (12, 284, 632645, 7101), (12, 279, 31, 7106), (12, 290, 6194, 7107), (12, 292, 20597040, 7108), (12, 294, 278194, 7109), (12, 296, 370116, 7110), (12, 298, 8554052, 7111), (12, 300, 86148200, 7112), (12, 302, 20200948, 7113), (12, 304, 498, 7114), (12, 306, 1476, 7115), (12, 308, 14836, 7116), (12, 404, -1, 8086), (13, 64, 4294967295, 8120)]
def kl (ci ix : Nat) : Option Int64 := (klL.find? (fun q => q.1 == ci && q.2.1 == ix)).map (fun q => q.2.2.1)
theorem kl_11_176 : kl 11 176 = some (-4611686018427387904) := by decide +kernel
theorem kl_9_67 : kl 9 67 = some (255) := by decide +kernel
theorem kl_15_314 : kl 15 314 = some (6148914691236517205) := by decide +kernel
theorem kl_15_316 : kl 15 316 = some (3689348814741910323) := by decide +kernel
theorem kl_15_318 : kl 15 318 = some (1085102592571150095) := by decide +kernel
theorem kl_4_58 : kl 4 58 = some (-1) := by decide +kernel
theorem kl_11_333 : kl 11 333 = some (-1) := by decide +kernel
theorem kl_12_274 : kl 12 274 = some (-4611686018427387904) := by decide +kernel
theorem kl_12_284 : kl 12 284 = some (632645) := by decide +kernel
theorem kl_12_279 : kl 12 279 = some (31) := by decide +kernel
theorem kl_12_290 : kl 12 290 = some (6194) := by decide +kernel
theorem kl_12_292 : kl 12 292 = some (20597040) := by decide +kernel
theorem kl_12_294 : kl 12 294 = some (278194) := by decide +kernel
theorem kl_12_296 : kl 12 296 = some (370116) := by decide +kernel
theorem kl_12_298 : kl 12 298 = some (8554052) := by decide +kernel
theorem kl_12_300 : kl 12 300 = some (86148200) := by decide +kernel
theorem kl_12_302 : kl 12 302 = some (20200948) := by decide +kernel
theorem kl_12_304 : kl 12 304 = some (498) := by decide +kernel
theorem kl_12_306 : kl 12 306 = some (1476) := by decide +kernel
theorem kl_12_308 : kl 12 308 = some (14836) := by decide +kernel
theorem kl_12_404 : kl 12 404 = some (-1) := by decide +kernel
theorem kl_13_64 : kl 13 64 = some (4294967295) := by decide +kernel
def kiL : List (Nat × Nat × Int32 × Nat) := [(14, 265, 1431655765, 4147), (14, 266, 858993459, 4148), (14, 267, 252645135, 4149)]
def ki (ci ix : Nat) : Option Int32 := (kiL.find? (fun q => q.1 == ci && q.2.1 == ix)).map (fun q => q.2.2.1)
theorem ki_14_265 : ki 14 265 = some (1431655765) := by decide +kernel
theorem ki_14_266 : ki 14 266 = some (858993459) := by decide +kernel
theorem ki_14_267 : ki 14 267 = some (252645135) := by decide +kernel
def ksL : List (Nat × Nat × Nat × Nat) := [(9, 35, 1010, 1181), (6, 75, 1011, 2024), (6, 80, 1012, 2031), (6, 82, 1013, 2032), (6, 84, 1014, 2033), (6, 86, 1015, 2034), (6, 88, 1016, 2035), (6, 90, 1017, 2036), (6, 92, 1018, 2037), (6, 94, 1019, 2038), (6, 96, 1020, 2039), (6, 98, 1021, 2040)]
def ks (ci ix : Nat) : Option Nat := (ksL.find? (fun q => q.1 == ci && q.2.1 == ix)).map (fun q => q.2.2.1)
theorem ks_9_35 : ks 9 35 = some 1010 := by decide +kernel
theorem ks_6_75 : ks 6 75 = some 1011 := by decide +kernel
theorem ks_6_80 : ks 6 80 = some 1012 := by decide +kernel
theorem ks_6_82 : ks 6 82 = some 1013 := by decide +kernel
theorem ks_6_84 : ks 6 84 = some 1014 := by decide +kernel
theorem ks_6_86 : ks 6 86 = some 1015 := by decide +kernel
theorem ks_6_88 : ks 6 88 = some 1016 := by decide +kernel
theorem ks_6_90 : ks 6 90 = some 1017 := by decide +kernel
theorem ks_6_92 : ks 6 92 = some 1018 := by decide +kernel
theorem ks_6_94 : ks 6 94 = some 1019 := by decide +kernel
theorem ks_6_96 : ks 6 96 = some 1020 := by decide +kernel
theorem ks_6_98 : ks 6 98 = some 1021 := by decide +kernel
def ksT : List String := ["breach strip and 0 < size or far < 0 ; shoot 0 < heard ;", "size", "far", "strip", "hour", "kind", "heard", "breach", "shoot", "or", "and", "not"]
def nrL : List (Nat × Nat × Nat × Nat) := [(13, 7, 11, 1023), (11, 7, 10, 1031), (11, 16, 3, 1058), (3, 11, 2, 1064), (11, 25, 9, 1139), (9, 18, 106, 1145), (9, 26, 6, 1147), (11, 32, 1, 2130), (11, 41, 0, 2149), (11, 50, 8, 2205), (11, 59, 5, 2218), (11, 68, 4, 3011), (11, 75, 7, 3058), (13, 10, 12, 5228)]
def nr (ci ix : Nat) : Option Nat := (nrL.find? (fun q => q.1 == ci && q.2.1 == ix)).map (fun q => q.2.2.1)
theorem nr_13_7 : nr 13 7 = some 11 := by decide +kernel
theorem nr_11_7 : nr 11 7 = some 10 := by decide +kernel
theorem nr_11_16 : nr 11 16 = some 3 := by decide +kernel
theorem nr_3_11 : nr 3 11 = some 2 := by decide +kernel
theorem nr_11_25 : nr 11 25 = some 9 := by decide +kernel
theorem nr_9_18 : nr 9 18 = some 106 := by decide +kernel
theorem nr_9_26 : nr 9 26 = some 6 := by decide +kernel
theorem nr_11_32 : nr 11 32 = some 1 := by decide +kernel
theorem nr_11_41 : nr 11 41 = some 0 := by decide +kernel
theorem nr_11_50 : nr 11 50 = some 8 := by decide +kernel
theorem nr_11_59 : nr 11 59 = some 5 := by decide +kernel
theorem nr_11_68 : nr 11 68 = some 4 := by decide +kernel
theorem nr_11_75 : nr 11 75 = some 7 := by decide +kernel
theorem nr_13_10 : nr 13 10 = some 12 := by decide +kernel
/-! the cells, in the order in which they are made: (0, n) int[n], 1 byte, 2 boolean, 3 long, 4 Mark[], 5 Sheet[], 6 int[][], (10, c) an object of class c -/
def kKL_0 : List (Nat × Nat) := [(10, 11), (10, 10), (0, 64), (0, 8), (10, 3), (4, 16), (10, 2), (0, 6), (10, 2), (0, 6), (10, 2), (0, 6), (10, 2), (0, 6), (10, 2), (0, 6), (10, 2), (0, 6), (10, 2), (0, 6), (10, 2), (0, 6), (10, 2), (0, 6), (10, 2), (0, 6), (10, 2), (0, 6), (10, 2), (0, 6), (10, 2), (0, 6), (10, 2), (0, 6), (10, 2), (0, 6), (10, 2), (0, 6), (10, 9), (0, 3), (0, 160), (6, 12), (0, 161), (0, 161), (0, 161), (0, 161), (0, 161), (0, 161), (0, 161), (0, 161), (0, 161), (0, 161), (0, 161), (0, 161), (0, 160), (10, 6), (0, 161), (0, 161), (10, 1), (0, 6), (10, 0), (0, 12), (0, 12), (0, 12), (0, 24), (0, 24), (0, 24), (2, 24), (0, 10), (0, 10), (0, 10), (10, 8), (10, 5), (0, 10), (3, 10), (0, 7), (2, 128), (10, 4), (0, 20), (3, 2)]
def kKL_1 : List (Nat × Nat) := [(0, 12), (0, 12), (0, 12), (0, 12), (0, 12), (0, 20), (0, 20), (0, 20), (5, 4), (10, 7), (0, 40), (10, 7), (0, 40), (10, 7), (0, 40), (10, 7), (0, 40), (10, 12), (0, 64), (0, 8), (0, 16), (0, 16), (0, 16), (0, 16), (0, 16), (0, 96), (2, 16), (2, 16), (1, 160), (0, 3), (0, 12), (0, 1920), (0, 161), (2, 7), (0, 6), (0, 161), (0, 12), (0, 12), (0, 12), (0, 12), (0, 12), (0, 12), (0, 12), (0, 12), (0, 24), (0, 24), (0, 24), (0, 24), (0, 10), (0, 10), (0, 10), (2, 24), (0, 10), (3, 10), (0, 7), (2, 128), (0, 20), (0, 20), (0, 20), (0, 20), (3, 2), (0, 4), (0, 4), (0, 160), (0, 40)]
def kKL : List (Nat × Nat) := kKL_0 ++ (kKL_1)
def kK (a : Nat) : Nat × Nat := if a < 1000 then (kKL[a]?).getD (99, 0) else if a = 1000 then (7, 6) else if a = 1001 then (7, 6) else if a = 1002 then (7, 4) else if a < 1022 then (20, a - 1010) else (99, 0)
theorem kK_0 : kK 0 = (10, 11) := by decide +kernel
theorem kK_1 : kK 1 = (10, 10) := by decide +kernel
theorem kK_2 : kK 2 = (0, 64) := by decide +kernel
theorem kK_3 : kK 3 = (0, 8) := by decide +kernel
theorem kK_4 : kK 4 = (10, 3) := by decide +kernel
theorem kK_5 : kK 5 = (4, 16) := by decide +kernel
theorem kK_6 : kK 6 = (10, 2) := by decide +kernel
theorem kK_7 : kK 7 = (0, 6) := by decide +kernel
theorem kK_8 : kK 8 = (10, 2) := by decide +kernel
theorem kK_9 : kK 9 = (0, 6) := by decide +kernel
theorem kK_10 : kK 10 = (10, 2) := by decide +kernel
theorem kK_11 : kK 11 = (0, 6) := by decide +kernel
theorem kK_12 : kK 12 = (10, 2) := by decide +kernel
theorem kK_13 : kK 13 = (0, 6) := by decide +kernel
theorem kK_14 : kK 14 = (10, 2) := by decide +kernel
theorem kK_15 : kK 15 = (0, 6) := by decide +kernel
theorem kK_16 : kK 16 = (10, 2) := by decide +kernel
theorem kK_17 : kK 17 = (0, 6) := by decide +kernel
theorem kK_18 : kK 18 = (10, 2) := by decide +kernel
theorem kK_19 : kK 19 = (0, 6) := by decide +kernel
theorem kK_20 : kK 20 = (10, 2) := by decide +kernel
theorem kK_21 : kK 21 = (0, 6) := by decide +kernel
theorem kK_22 : kK 22 = (10, 2) := by decide +kernel
theorem kK_23 : kK 23 = (0, 6) := by decide +kernel
theorem kK_24 : kK 24 = (10, 2) := by decide +kernel
theorem kK_25 : kK 25 = (0, 6) := by decide +kernel
theorem kK_26 : kK 26 = (10, 2) := by decide +kernel
theorem kK_27 : kK 27 = (0, 6) := by decide +kernel
theorem kK_28 : kK 28 = (10, 2) := by decide +kernel
theorem kK_29 : kK 29 = (0, 6) := by decide +kernel
theorem kK_30 : kK 30 = (10, 2) := by decide +kernel
theorem kK_31 : kK 31 = (0, 6) := by decide +kernel
theorem kK_32 : kK 32 = (10, 2) := by decide +kernel
theorem kK_33 : kK 33 = (0, 6) := by decide +kernel
theorem kK_34 : kK 34 = (10, 2) := by decide +kernel
theorem kK_35 : kK 35 = (0, 6) := by decide +kernel
theorem kK_36 : kK 36 = (10, 2) := by decide +kernel
theorem kK_37 : kK 37 = (0, 6) := by decide +kernel
theorem kK_38 : kK 38 = (10, 9) := by decide +kernel
theorem kK_39 : kK 39 = (0, 3) := by decide +kernel
theorem kK_40 : kK 40 = (0, 160) := by decide +kernel
theorem kK_41 : kK 41 = (6, 12) := by decide +kernel
theorem kK_42 : kK 42 = (0, 161) := by decide +kernel
theorem kK_43 : kK 43 = (0, 161) := by decide +kernel
theorem kK_44 : kK 44 = (0, 161) := by decide +kernel
theorem kK_45 : kK 45 = (0, 161) := by decide +kernel
theorem kK_46 : kK 46 = (0, 161) := by decide +kernel
theorem kK_47 : kK 47 = (0, 161) := by decide +kernel
theorem kK_48 : kK 48 = (0, 161) := by decide +kernel
theorem kK_49 : kK 49 = (0, 161) := by decide +kernel
theorem kK_50 : kK 50 = (0, 161) := by decide +kernel
theorem kK_51 : kK 51 = (0, 161) := by decide +kernel
theorem kK_52 : kK 52 = (0, 161) := by decide +kernel
theorem kK_53 : kK 53 = (0, 161) := by decide +kernel
theorem kK_54 : kK 54 = (0, 160) := by decide +kernel
theorem kK_55 : kK 55 = (10, 6) := by decide +kernel
theorem kK_56 : kK 56 = (0, 161) := by decide +kernel
theorem kK_57 : kK 57 = (0, 161) := by decide +kernel
theorem kK_58 : kK 58 = (10, 1) := by decide +kernel
theorem kK_59 : kK 59 = (0, 6) := by decide +kernel
theorem kK_60 : kK 60 = (10, 0) := by decide +kernel
theorem kK_61 : kK 61 = (0, 12) := by decide +kernel
theorem kK_62 : kK 62 = (0, 12) := by decide +kernel
theorem kK_63 : kK 63 = (0, 12) := by decide +kernel
theorem kK_64 : kK 64 = (0, 24) := by decide +kernel
theorem kK_65 : kK 65 = (0, 24) := by decide +kernel
theorem kK_66 : kK 66 = (0, 24) := by decide +kernel
theorem kK_67 : kK 67 = (2, 24) := by decide +kernel
theorem kK_68 : kK 68 = (0, 10) := by decide +kernel
theorem kK_69 : kK 69 = (0, 10) := by decide +kernel
theorem kK_70 : kK 70 = (0, 10) := by decide +kernel
theorem kK_71 : kK 71 = (10, 8) := by decide +kernel
theorem kK_72 : kK 72 = (10, 5) := by decide +kernel
theorem kK_73 : kK 73 = (0, 10) := by decide +kernel
theorem kK_74 : kK 74 = (3, 10) := by decide +kernel
theorem kK_75 : kK 75 = (0, 7) := by decide +kernel
theorem kK_76 : kK 76 = (2, 128) := by decide +kernel
theorem kK_77 : kK 77 = (10, 4) := by decide +kernel
theorem kK_78 : kK 78 = (0, 20) := by decide +kernel
theorem kK_79 : kK 79 = (3, 2) := by decide +kernel
theorem kK_80 : kK 80 = (0, 12) := by decide +kernel
theorem kK_81 : kK 81 = (0, 12) := by decide +kernel
theorem kK_82 : kK 82 = (0, 12) := by decide +kernel
theorem kK_83 : kK 83 = (0, 12) := by decide +kernel
theorem kK_84 : kK 84 = (0, 12) := by decide +kernel
theorem kK_85 : kK 85 = (0, 20) := by decide +kernel
theorem kK_86 : kK 86 = (0, 20) := by decide +kernel
theorem kK_87 : kK 87 = (0, 20) := by decide +kernel
theorem kK_88 : kK 88 = (5, 4) := by decide +kernel
theorem kK_89 : kK 89 = (10, 7) := by decide +kernel
theorem kK_90 : kK 90 = (0, 40) := by decide +kernel
theorem kK_91 : kK 91 = (10, 7) := by decide +kernel
theorem kK_92 : kK 92 = (0, 40) := by decide +kernel
theorem kK_93 : kK 93 = (10, 7) := by decide +kernel
theorem kK_94 : kK 94 = (0, 40) := by decide +kernel
theorem kK_95 : kK 95 = (10, 7) := by decide +kernel
theorem kK_96 : kK 96 = (0, 40) := by decide +kernel
theorem kK_97 : kK 97 = (10, 12) := by decide +kernel
theorem kK_98 : kK 98 = (0, 64) := by decide +kernel
theorem kK_99 : kK 99 = (0, 8) := by decide +kernel
theorem kK_100 : kK 100 = (0, 16) := by decide +kernel
theorem kK_101 : kK 101 = (0, 16) := by decide +kernel
theorem kK_102 : kK 102 = (0, 16) := by decide +kernel
theorem kK_103 : kK 103 = (0, 16) := by decide +kernel
theorem kK_104 : kK 104 = (0, 16) := by decide +kernel
theorem kK_105 : kK 105 = (0, 96) := by decide +kernel
theorem kK_106 : kK 106 = (2, 16) := by decide +kernel
theorem kK_107 : kK 107 = (2, 16) := by decide +kernel
theorem kK_108 : kK 108 = (1, 160) := by decide +kernel
theorem kK_109 : kK 109 = (0, 3) := by decide +kernel
theorem kK_110 : kK 110 = (0, 12) := by decide +kernel
theorem kK_111 : kK 111 = (0, 1920) := by decide +kernel
theorem kK_112 : kK 112 = (0, 161) := by decide +kernel
theorem kK_113 : kK 113 = (2, 7) := by decide +kernel
theorem kK_114 : kK 114 = (0, 6) := by decide +kernel
theorem kK_115 : kK 115 = (0, 161) := by decide +kernel
theorem kK_116 : kK 116 = (0, 12) := by decide +kernel
theorem kK_117 : kK 117 = (0, 12) := by decide +kernel
theorem kK_118 : kK 118 = (0, 12) := by decide +kernel
theorem kK_119 : kK 119 = (0, 12) := by decide +kernel
theorem kK_120 : kK 120 = (0, 12) := by decide +kernel
theorem kK_121 : kK 121 = (0, 12) := by decide +kernel
theorem kK_122 : kK 122 = (0, 12) := by decide +kernel
theorem kK_123 : kK 123 = (0, 12) := by decide +kernel
theorem kK_124 : kK 124 = (0, 24) := by decide +kernel
theorem kK_125 : kK 125 = (0, 24) := by decide +kernel
theorem kK_126 : kK 126 = (0, 24) := by decide +kernel
theorem kK_127 : kK 127 = (0, 24) := by decide +kernel
theorem kK_128 : kK 128 = (0, 10) := by decide +kernel
theorem kK_129 : kK 129 = (0, 10) := by decide +kernel
theorem kK_130 : kK 130 = (0, 10) := by decide +kernel
theorem kK_131 : kK 131 = (2, 24) := by decide +kernel
theorem kK_132 : kK 132 = (0, 10) := by decide +kernel
theorem kK_133 : kK 133 = (3, 10) := by decide +kernel
theorem kK_134 : kK 134 = (0, 7) := by decide +kernel
theorem kK_135 : kK 135 = (2, 128) := by decide +kernel
theorem kK_136 : kK 136 = (0, 20) := by decide +kernel
theorem kK_137 : kK 137 = (0, 20) := by decide +kernel
theorem kK_138 : kK 138 = (0, 20) := by decide +kernel
theorem kK_139 : kK 139 = (0, 20) := by decide +kernel
theorem kK_140 : kK 140 = (3, 2) := by decide +kernel
theorem kK_141 : kK 141 = (0, 4) := by decide +kernel
theorem kK_142 : kK 142 = (0, 4) := by decide +kernel
theorem kK_143 : kK 143 = (0, 160) := by decide +kernel
theorem kK_144 : kK 144 = (0, 40) := by decide +kernel
theorem kK_1000 : kK 1000 = (7, 6) := by decide +kernel
theorem kK_1001 : kK 1001 = (7, 6) := by decide +kernel
theorem kK_1002 : kK 1002 = (7, 4) := by decide +kernel
theorem kK_1010 : kK 1010 = (20, 0) := by decide +kernel
theorem kK_1011 : kK 1011 = (20, 1) := by decide +kernel
theorem kK_1012 : kK 1012 = (20, 2) := by decide +kernel
theorem kK_1013 : kK 1013 = (20, 3) := by decide +kernel
theorem kK_1014 : kK 1014 = (20, 4) := by decide +kernel
theorem kK_1015 : kK 1015 = (20, 5) := by decide +kernel
theorem kK_1016 : kK 1016 = (20, 6) := by decide +kernel
theorem kK_1017 : kK 1017 = (20, 7) := by decide +kernel
theorem kK_1018 : kK 1018 = (20, 8) := by decide +kernel
theorem kK_1019 : kK 1019 = (20, 9) := by decide +kernel
theorem kK_1020 : kK 1020 = (20, 10) := by decide +kernel
theorem kK_1021 : kK 1021 = (20, 11) := by decide +kernel
theorem kK_mark : ∀ m, m < 16 → kK (6 + 2 * m) = (10, 2) := by decide +kernel
theorem kK_steps : ∀ m, m < 16 → kK (7 + 2 * m) = (0, 6) := by decide +kernel
theorem kK_code : ∀ m, m < 12 → kK (42 + m) = (0, 161) := by decide +kernel
theorem kK_sheet : ∀ m, m < 4 → kK (89 + 2 * m) = (10, 7) := by decide +kernel
theorem kK_items : ∀ m, m < 4 → kK (90 + 2 * m) = (0, 40) := by decide +kernel
def rRL_0 : List (Nat × Nat × Nat) := [(0, 0, 1), (0, 1, 4), (0, 2, 38), (0, 3, 58), (0, 4, 60), (0, 5, 71), (0, 6, 72), (0, 7, 77), (0, 8, 88), (1, 0, 2), (1, 1, 3), (4, 0, 5), (4, 2, 1), (38, 0, 39), (38, 3, 40), (38, 4, 41), (38, 5, 54), (38, 6, 55), (55, 0, 40), (55, 2, 56), (55, 3, 57), (58, 0, 1), (58, 1, 4), (58, 2, 38), (58, 3, 59), (60, 3, 4), (60, 4, 61), (60, 5, 62), (60, 6, 63), (60, 7, 64), (60, 8, 65), (60, 9, 66), (60, 10, 67), (60, 12, 68), (60, 13, 69), (60, 14, 70), (71, 0, 4), (71, 1, 58), (72, 1, 1), (72, 2, 4), (72, 3, 73), (72, 4, 74), (72, 5, 75), (72, 7, 76), (77, 2, 78), (77, 3, 79), (77, 4, 80), (77, 5, 81), (77, 6, 82), (77, 7, 83), (77, 8, 84), (77, 9, 85), (77, 10, 86), (77, 11, 87), (97, 0, 98), (97, 1, 99), (97, 5, 100), (97, 6, 101), (97, 7, 102), (97, 8, 103)]
def rRL_1 : List (Nat × Nat × Nat) := [(97, 9, 104), (97, 10, 105), (97, 11, 106), (97, 12, 107), (97, 13, 108), (97, 16, 109), (97, 17, 110), (97, 18, 111), (97, 23, 112), (97, 24, 113), (97, 29, 114), (97, 30, 115), (97, 32, 116), (97, 33, 117), (97, 34, 118), (97, 35, 119), (97, 36, 120), (97, 40, 121), (97, 41, 122), (97, 42, 123), (97, 43, 124), (97, 44, 125), (97, 45, 126), (97, 46, 127), (97, 47, 128), (97, 48, 129), (97, 49, 130), (97, 50, 131), (97, 52, 132), (97, 53, 133), (97, 54, 134), (97, 56, 135), (97, 58, 136), (97, 59, 137), (97, 60, 138), (97, 61, 139), (97, 62, 140), (97, 63, 141), (97, 64, 142), (97, 65, 143), (97, 66, 144)]
def rRL : List (Nat × Nat × Nat) := rRL_0 ++ (rRL_1)
/-- the references, once all is made; c: which row the Reader writes to -/
def rR (c : Nat) : Nat → Nat → Option Nat := fun a j => if a = 5 then (if j < 16 then some (6 + 2 * j) else none) else if a = 41 then (if j < 12 then some (42 + j) else none) else if a = 88 then (if j < 4 then some (89 + 2 * j) else none) else if a = 55 ∧ j = 7 then some (42 + c) else if kK a = (10, 2) then (if j = 7 then some (a + 1) else none) else if kK a = (10, 7) then (if j = 1 then some (a + 1) else none) else (rRL.find? (fun q => q.1 == a && q.2.1 == j)).map (fun q => q.2.2)
theorem rR_0_0 (c : Nat) : rR c 0 0 = some 1 := by
  unfold rR
  rw [if_neg (by decide), if_neg (by decide), if_neg (by decide), if_neg (by decide), if_neg (by decide +kernel), if_neg (by decide +kernel)]
  decide +kernel
theorem rR_0_1 (c : Nat) : rR c 0 1 = some 4 := by
  unfold rR
  rw [if_neg (by decide), if_neg (by decide), if_neg (by decide), if_neg (by decide), if_neg (by decide +kernel), if_neg (by decide +kernel)]
  decide +kernel
theorem rR_0_2 (c : Nat) : rR c 0 2 = some 38 := by
  unfold rR
  rw [if_neg (by decide), if_neg (by decide), if_neg (by decide), if_neg (by decide), if_neg (by decide +kernel), if_neg (by decide +kernel)]
  decide +kernel
theorem rR_0_3 (c : Nat) : rR c 0 3 = some 58 := by
  unfold rR
  rw [if_neg (by decide), if_neg (by decide), if_neg (by decide), if_neg (by decide), if_neg (by decide +kernel), if_neg (by decide +kernel)]
  decide +kernel
theorem rR_0_4 (c : Nat) : rR c 0 4 = some 60 := by
  unfold rR
  rw [if_neg (by decide), if_neg (by decide), if_neg (by decide), if_neg (by decide), if_neg (by decide +kernel), if_neg (by decide +kernel)]
  decide +kernel
theorem rR_0_5 (c : Nat) : rR c 0 5 = some 71 := by
  unfold rR
  rw [if_neg (by decide), if_neg (by decide), if_neg (by decide), if_neg (by decide), if_neg (by decide +kernel), if_neg (by decide +kernel)]
  decide +kernel
theorem rR_0_6 (c : Nat) : rR c 0 6 = some 72 := by
  unfold rR
  rw [if_neg (by decide), if_neg (by decide), if_neg (by decide), if_neg (by decide), if_neg (by decide +kernel), if_neg (by decide +kernel)]
  decide +kernel
theorem rR_0_7 (c : Nat) : rR c 0 7 = some 77 := by
  unfold rR
  rw [if_neg (by decide), if_neg (by decide), if_neg (by decide), if_neg (by decide), if_neg (by decide +kernel), if_neg (by decide +kernel)]
  decide +kernel
theorem rR_0_8 (c : Nat) : rR c 0 8 = some 88 := by
  unfold rR
  rw [if_neg (by decide), if_neg (by decide), if_neg (by decide), if_neg (by decide), if_neg (by decide +kernel), if_neg (by decide +kernel)]
  decide +kernel
theorem rR_1_0 (c : Nat) : rR c 1 0 = some 2 := by
  unfold rR
  rw [if_neg (by decide), if_neg (by decide), if_neg (by decide), if_neg (by decide), if_neg (by decide +kernel), if_neg (by decide +kernel)]
  decide +kernel
theorem rR_1_1 (c : Nat) : rR c 1 1 = some 3 := by
  unfold rR
  rw [if_neg (by decide), if_neg (by decide), if_neg (by decide), if_neg (by decide), if_neg (by decide +kernel), if_neg (by decide +kernel)]
  decide +kernel
theorem rR_4_0 (c : Nat) : rR c 4 0 = some 5 := by
  unfold rR
  rw [if_neg (by decide), if_neg (by decide), if_neg (by decide), if_neg (by decide), if_neg (by decide +kernel), if_neg (by decide +kernel)]
  decide +kernel
theorem rR_4_2 (c : Nat) : rR c 4 2 = some 1 := by
  unfold rR
  rw [if_neg (by decide), if_neg (by decide), if_neg (by decide), if_neg (by decide), if_neg (by decide +kernel), if_neg (by decide +kernel)]
  decide +kernel
theorem rR_38_0 (c : Nat) : rR c 38 0 = some 39 := by
  unfold rR
  rw [if_neg (by decide), if_neg (by decide), if_neg (by decide), if_neg (by decide), if_neg (by decide +kernel), if_neg (by decide +kernel)]
  decide +kernel
theorem rR_38_3 (c : Nat) : rR c 38 3 = some 40 := by
  unfold rR
  rw [if_neg (by decide), if_neg (by decide), if_neg (by decide), if_neg (by decide), if_neg (by decide +kernel), if_neg (by decide +kernel)]
  decide +kernel
theorem rR_38_4 (c : Nat) : rR c 38 4 = some 41 := by
  unfold rR
  rw [if_neg (by decide), if_neg (by decide), if_neg (by decide), if_neg (by decide), if_neg (by decide +kernel), if_neg (by decide +kernel)]
  decide +kernel
theorem rR_38_5 (c : Nat) : rR c 38 5 = some 54 := by
  unfold rR
  rw [if_neg (by decide), if_neg (by decide), if_neg (by decide), if_neg (by decide), if_neg (by decide +kernel), if_neg (by decide +kernel)]
  decide +kernel
theorem rR_38_6 (c : Nat) : rR c 38 6 = some 55 := by
  unfold rR
  rw [if_neg (by decide), if_neg (by decide), if_neg (by decide), if_neg (by decide), if_neg (by decide +kernel), if_neg (by decide +kernel)]
  decide +kernel
theorem rR_55_0 (c : Nat) : rR c 55 0 = some 40 := by
  unfold rR
  rw [if_neg (by decide), if_neg (by decide), if_neg (by decide), if_neg (by decide), if_neg (by decide +kernel), if_neg (by decide +kernel)]
  decide +kernel
theorem rR_55_2 (c : Nat) : rR c 55 2 = some 56 := by
  unfold rR
  rw [if_neg (by decide), if_neg (by decide), if_neg (by decide), if_neg (by decide), if_neg (by decide +kernel), if_neg (by decide +kernel)]
  decide +kernel
theorem rR_55_3 (c : Nat) : rR c 55 3 = some 57 := by
  unfold rR
  rw [if_neg (by decide), if_neg (by decide), if_neg (by decide), if_neg (by decide), if_neg (by decide +kernel), if_neg (by decide +kernel)]
  decide +kernel
theorem rR_58_0 (c : Nat) : rR c 58 0 = some 1 := by
  unfold rR
  rw [if_neg (by decide), if_neg (by decide), if_neg (by decide), if_neg (by decide), if_neg (by decide +kernel), if_neg (by decide +kernel)]
  decide +kernel
theorem rR_58_1 (c : Nat) : rR c 58 1 = some 4 := by
  unfold rR
  rw [if_neg (by decide), if_neg (by decide), if_neg (by decide), if_neg (by decide), if_neg (by decide +kernel), if_neg (by decide +kernel)]
  decide +kernel
theorem rR_58_2 (c : Nat) : rR c 58 2 = some 38 := by
  unfold rR
  rw [if_neg (by decide), if_neg (by decide), if_neg (by decide), if_neg (by decide), if_neg (by decide +kernel), if_neg (by decide +kernel)]
  decide +kernel
theorem rR_58_3 (c : Nat) : rR c 58 3 = some 59 := by
  unfold rR
  rw [if_neg (by decide), if_neg (by decide), if_neg (by decide), if_neg (by decide), if_neg (by decide +kernel), if_neg (by decide +kernel)]
  decide +kernel
theorem rR_60_3 (c : Nat) : rR c 60 3 = some 4 := by
  unfold rR
  rw [if_neg (by decide), if_neg (by decide), if_neg (by decide), if_neg (by decide), if_neg (by decide +kernel), if_neg (by decide +kernel)]
  decide +kernel
theorem rR_60_4 (c : Nat) : rR c 60 4 = some 61 := by
  unfold rR
  rw [if_neg (by decide), if_neg (by decide), if_neg (by decide), if_neg (by decide), if_neg (by decide +kernel), if_neg (by decide +kernel)]
  decide +kernel
theorem rR_60_5 (c : Nat) : rR c 60 5 = some 62 := by
  unfold rR
  rw [if_neg (by decide), if_neg (by decide), if_neg (by decide), if_neg (by decide), if_neg (by decide +kernel), if_neg (by decide +kernel)]
  decide +kernel
theorem rR_60_6 (c : Nat) : rR c 60 6 = some 63 := by
  unfold rR
  rw [if_neg (by decide), if_neg (by decide), if_neg (by decide), if_neg (by decide), if_neg (by decide +kernel), if_neg (by decide +kernel)]
  decide +kernel
theorem rR_60_7 (c : Nat) : rR c 60 7 = some 64 := by
  unfold rR
  rw [if_neg (by decide), if_neg (by decide), if_neg (by decide), if_neg (by decide), if_neg (by decide +kernel), if_neg (by decide +kernel)]
  decide +kernel
theorem rR_60_8 (c : Nat) : rR c 60 8 = some 65 := by
  unfold rR
  rw [if_neg (by decide), if_neg (by decide), if_neg (by decide), if_neg (by decide), if_neg (by decide +kernel), if_neg (by decide +kernel)]
  decide +kernel
theorem rR_60_9 (c : Nat) : rR c 60 9 = some 66 := by
  unfold rR
  rw [if_neg (by decide), if_neg (by decide), if_neg (by decide), if_neg (by decide), if_neg (by decide +kernel), if_neg (by decide +kernel)]
  decide +kernel
theorem rR_60_10 (c : Nat) : rR c 60 10 = some 67 := by
  unfold rR
  rw [if_neg (by decide), if_neg (by decide), if_neg (by decide), if_neg (by decide), if_neg (by decide +kernel), if_neg (by decide +kernel)]
  decide +kernel
theorem rR_60_12 (c : Nat) : rR c 60 12 = some 68 := by
  unfold rR
  rw [if_neg (by decide), if_neg (by decide), if_neg (by decide), if_neg (by decide), if_neg (by decide +kernel), if_neg (by decide +kernel)]
  decide +kernel
theorem rR_60_13 (c : Nat) : rR c 60 13 = some 69 := by
  unfold rR
  rw [if_neg (by decide), if_neg (by decide), if_neg (by decide), if_neg (by decide), if_neg (by decide +kernel), if_neg (by decide +kernel)]
  decide +kernel
theorem rR_60_14 (c : Nat) : rR c 60 14 = some 70 := by
  unfold rR
  rw [if_neg (by decide), if_neg (by decide), if_neg (by decide), if_neg (by decide), if_neg (by decide +kernel), if_neg (by decide +kernel)]
  decide +kernel
theorem rR_71_0 (c : Nat) : rR c 71 0 = some 4 := by
  unfold rR
  rw [if_neg (by decide), if_neg (by decide), if_neg (by decide), if_neg (by decide), if_neg (by decide +kernel), if_neg (by decide +kernel)]
  decide +kernel
theorem rR_71_1 (c : Nat) : rR c 71 1 = some 58 := by
  unfold rR
  rw [if_neg (by decide), if_neg (by decide), if_neg (by decide), if_neg (by decide), if_neg (by decide +kernel), if_neg (by decide +kernel)]
  decide +kernel
theorem rR_72_1 (c : Nat) : rR c 72 1 = some 1 := by
  unfold rR
  rw [if_neg (by decide), if_neg (by decide), if_neg (by decide), if_neg (by decide), if_neg (by decide +kernel), if_neg (by decide +kernel)]
  decide +kernel
theorem rR_72_2 (c : Nat) : rR c 72 2 = some 4 := by
  unfold rR
  rw [if_neg (by decide), if_neg (by decide), if_neg (by decide), if_neg (by decide), if_neg (by decide +kernel), if_neg (by decide +kernel)]
  decide +kernel
theorem rR_72_3 (c : Nat) : rR c 72 3 = some 73 := by
  unfold rR
  rw [if_neg (by decide), if_neg (by decide), if_neg (by decide), if_neg (by decide), if_neg (by decide +kernel), if_neg (by decide +kernel)]
  decide +kernel
theorem rR_72_4 (c : Nat) : rR c 72 4 = some 74 := by
  unfold rR
  rw [if_neg (by decide), if_neg (by decide), if_neg (by decide), if_neg (by decide), if_neg (by decide +kernel), if_neg (by decide +kernel)]
  decide +kernel
theorem rR_72_5 (c : Nat) : rR c 72 5 = some 75 := by
  unfold rR
  rw [if_neg (by decide), if_neg (by decide), if_neg (by decide), if_neg (by decide), if_neg (by decide +kernel), if_neg (by decide +kernel)]
  decide +kernel
theorem rR_72_7 (c : Nat) : rR c 72 7 = some 76 := by
  unfold rR
  rw [if_neg (by decide), if_neg (by decide), if_neg (by decide), if_neg (by decide), if_neg (by decide +kernel), if_neg (by decide +kernel)]
  decide +kernel
theorem rR_77_2 (c : Nat) : rR c 77 2 = some 78 := by
  unfold rR
  rw [if_neg (by decide), if_neg (by decide), if_neg (by decide), if_neg (by decide), if_neg (by decide +kernel), if_neg (by decide +kernel)]
  decide +kernel
theorem rR_77_3 (c : Nat) : rR c 77 3 = some 79 := by
  unfold rR
  rw [if_neg (by decide), if_neg (by decide), if_neg (by decide), if_neg (by decide), if_neg (by decide +kernel), if_neg (by decide +kernel)]
  decide +kernel
theorem rR_77_4 (c : Nat) : rR c 77 4 = some 80 := by
  unfold rR
  rw [if_neg (by decide), if_neg (by decide), if_neg (by decide), if_neg (by decide), if_neg (by decide +kernel), if_neg (by decide +kernel)]
  decide +kernel
theorem rR_77_5 (c : Nat) : rR c 77 5 = some 81 := by
  unfold rR
  rw [if_neg (by decide), if_neg (by decide), if_neg (by decide), if_neg (by decide), if_neg (by decide +kernel), if_neg (by decide +kernel)]
  decide +kernel
theorem rR_77_6 (c : Nat) : rR c 77 6 = some 82 := by
  unfold rR
  rw [if_neg (by decide), if_neg (by decide), if_neg (by decide), if_neg (by decide), if_neg (by decide +kernel), if_neg (by decide +kernel)]
  decide +kernel
theorem rR_77_7 (c : Nat) : rR c 77 7 = some 83 := by
  unfold rR
  rw [if_neg (by decide), if_neg (by decide), if_neg (by decide), if_neg (by decide), if_neg (by decide +kernel), if_neg (by decide +kernel)]
  decide +kernel
theorem rR_77_8 (c : Nat) : rR c 77 8 = some 84 := by
  unfold rR
  rw [if_neg (by decide), if_neg (by decide), if_neg (by decide), if_neg (by decide), if_neg (by decide +kernel), if_neg (by decide +kernel)]
  decide +kernel
theorem rR_77_9 (c : Nat) : rR c 77 9 = some 85 := by
  unfold rR
  rw [if_neg (by decide), if_neg (by decide), if_neg (by decide), if_neg (by decide), if_neg (by decide +kernel), if_neg (by decide +kernel)]
  decide +kernel
theorem rR_77_10 (c : Nat) : rR c 77 10 = some 86 := by
  unfold rR
  rw [if_neg (by decide), if_neg (by decide), if_neg (by decide), if_neg (by decide), if_neg (by decide +kernel), if_neg (by decide +kernel)]
  decide +kernel
theorem rR_77_11 (c : Nat) : rR c 77 11 = some 87 := by
  unfold rR
  rw [if_neg (by decide), if_neg (by decide), if_neg (by decide), if_neg (by decide), if_neg (by decide +kernel), if_neg (by decide +kernel)]
  decide +kernel
theorem rR_97_0 (c : Nat) : rR c 97 0 = some 98 := by
  unfold rR
  rw [if_neg (by decide), if_neg (by decide), if_neg (by decide), if_neg (by decide), if_neg (by decide +kernel), if_neg (by decide +kernel)]
  decide +kernel
theorem rR_97_1 (c : Nat) : rR c 97 1 = some 99 := by
  unfold rR
  rw [if_neg (by decide), if_neg (by decide), if_neg (by decide), if_neg (by decide), if_neg (by decide +kernel), if_neg (by decide +kernel)]
  decide +kernel
theorem rR_97_5 (c : Nat) : rR c 97 5 = some 100 := by
  unfold rR
  rw [if_neg (by decide), if_neg (by decide), if_neg (by decide), if_neg (by decide), if_neg (by decide +kernel), if_neg (by decide +kernel)]
  decide +kernel
theorem rR_97_6 (c : Nat) : rR c 97 6 = some 101 := by
  unfold rR
  rw [if_neg (by decide), if_neg (by decide), if_neg (by decide), if_neg (by decide), if_neg (by decide +kernel), if_neg (by decide +kernel)]
  decide +kernel
theorem rR_97_7 (c : Nat) : rR c 97 7 = some 102 := by
  unfold rR
  rw [if_neg (by decide), if_neg (by decide), if_neg (by decide), if_neg (by decide), if_neg (by decide +kernel), if_neg (by decide +kernel)]
  decide +kernel
theorem rR_97_8 (c : Nat) : rR c 97 8 = some 103 := by
  unfold rR
  rw [if_neg (by decide), if_neg (by decide), if_neg (by decide), if_neg (by decide), if_neg (by decide +kernel), if_neg (by decide +kernel)]
  decide +kernel
theorem rR_97_9 (c : Nat) : rR c 97 9 = some 104 := by
  unfold rR
  rw [if_neg (by decide), if_neg (by decide), if_neg (by decide), if_neg (by decide), if_neg (by decide +kernel), if_neg (by decide +kernel)]
  decide +kernel
theorem rR_97_10 (c : Nat) : rR c 97 10 = some 105 := by
  unfold rR
  rw [if_neg (by decide), if_neg (by decide), if_neg (by decide), if_neg (by decide), if_neg (by decide +kernel), if_neg (by decide +kernel)]
  decide +kernel
theorem rR_97_11 (c : Nat) : rR c 97 11 = some 106 := by
  unfold rR
  rw [if_neg (by decide), if_neg (by decide), if_neg (by decide), if_neg (by decide), if_neg (by decide +kernel), if_neg (by decide +kernel)]
  decide +kernel
theorem rR_97_12 (c : Nat) : rR c 97 12 = some 107 := by
  unfold rR
  rw [if_neg (by decide), if_neg (by decide), if_neg (by decide), if_neg (by decide), if_neg (by decide +kernel), if_neg (by decide +kernel)]
  decide +kernel
theorem rR_97_13 (c : Nat) : rR c 97 13 = some 108 := by
  unfold rR
  rw [if_neg (by decide), if_neg (by decide), if_neg (by decide), if_neg (by decide), if_neg (by decide +kernel), if_neg (by decide +kernel)]
  decide +kernel
theorem rR_97_16 (c : Nat) : rR c 97 16 = some 109 := by
  unfold rR
  rw [if_neg (by decide), if_neg (by decide), if_neg (by decide), if_neg (by decide), if_neg (by decide +kernel), if_neg (by decide +kernel)]
  decide +kernel
theorem rR_97_17 (c : Nat) : rR c 97 17 = some 110 := by
  unfold rR
  rw [if_neg (by decide), if_neg (by decide), if_neg (by decide), if_neg (by decide), if_neg (by decide +kernel), if_neg (by decide +kernel)]
  decide +kernel
theorem rR_97_18 (c : Nat) : rR c 97 18 = some 111 := by
  unfold rR
  rw [if_neg (by decide), if_neg (by decide), if_neg (by decide), if_neg (by decide), if_neg (by decide +kernel), if_neg (by decide +kernel)]
  decide +kernel
theorem rR_97_23 (c : Nat) : rR c 97 23 = some 112 := by
  unfold rR
  rw [if_neg (by decide), if_neg (by decide), if_neg (by decide), if_neg (by decide), if_neg (by decide +kernel), if_neg (by decide +kernel)]
  decide +kernel
theorem rR_97_24 (c : Nat) : rR c 97 24 = some 113 := by
  unfold rR
  rw [if_neg (by decide), if_neg (by decide), if_neg (by decide), if_neg (by decide), if_neg (by decide +kernel), if_neg (by decide +kernel)]
  decide +kernel
theorem rR_97_29 (c : Nat) : rR c 97 29 = some 114 := by
  unfold rR
  rw [if_neg (by decide), if_neg (by decide), if_neg (by decide), if_neg (by decide), if_neg (by decide +kernel), if_neg (by decide +kernel)]
  decide +kernel
theorem rR_97_30 (c : Nat) : rR c 97 30 = some 115 := by
  unfold rR
  rw [if_neg (by decide), if_neg (by decide), if_neg (by decide), if_neg (by decide), if_neg (by decide +kernel), if_neg (by decide +kernel)]
  decide +kernel
theorem rR_97_32 (c : Nat) : rR c 97 32 = some 116 := by
  unfold rR
  rw [if_neg (by decide), if_neg (by decide), if_neg (by decide), if_neg (by decide), if_neg (by decide +kernel), if_neg (by decide +kernel)]
  decide +kernel
theorem rR_97_33 (c : Nat) : rR c 97 33 = some 117 := by
  unfold rR
  rw [if_neg (by decide), if_neg (by decide), if_neg (by decide), if_neg (by decide), if_neg (by decide +kernel), if_neg (by decide +kernel)]
  decide +kernel
theorem rR_97_34 (c : Nat) : rR c 97 34 = some 118 := by
  unfold rR
  rw [if_neg (by decide), if_neg (by decide), if_neg (by decide), if_neg (by decide), if_neg (by decide +kernel), if_neg (by decide +kernel)]
  decide +kernel
theorem rR_97_35 (c : Nat) : rR c 97 35 = some 119 := by
  unfold rR
  rw [if_neg (by decide), if_neg (by decide), if_neg (by decide), if_neg (by decide), if_neg (by decide +kernel), if_neg (by decide +kernel)]
  decide +kernel
theorem rR_97_36 (c : Nat) : rR c 97 36 = some 120 := by
  unfold rR
  rw [if_neg (by decide), if_neg (by decide), if_neg (by decide), if_neg (by decide), if_neg (by decide +kernel), if_neg (by decide +kernel)]
  decide +kernel
theorem rR_97_40 (c : Nat) : rR c 97 40 = some 121 := by
  unfold rR
  rw [if_neg (by decide), if_neg (by decide), if_neg (by decide), if_neg (by decide), if_neg (by decide +kernel), if_neg (by decide +kernel)]
  decide +kernel
theorem rR_97_41 (c : Nat) : rR c 97 41 = some 122 := by
  unfold rR
  rw [if_neg (by decide), if_neg (by decide), if_neg (by decide), if_neg (by decide), if_neg (by decide +kernel), if_neg (by decide +kernel)]
  decide +kernel
theorem rR_97_42 (c : Nat) : rR c 97 42 = some 123 := by
  unfold rR
  rw [if_neg (by decide), if_neg (by decide), if_neg (by decide), if_neg (by decide), if_neg (by decide +kernel), if_neg (by decide +kernel)]
  decide +kernel
theorem rR_97_43 (c : Nat) : rR c 97 43 = some 124 := by
  unfold rR
  rw [if_neg (by decide), if_neg (by decide), if_neg (by decide), if_neg (by decide), if_neg (by decide +kernel), if_neg (by decide +kernel)]
  decide +kernel
theorem rR_97_44 (c : Nat) : rR c 97 44 = some 125 := by
  unfold rR
  rw [if_neg (by decide), if_neg (by decide), if_neg (by decide), if_neg (by decide), if_neg (by decide +kernel), if_neg (by decide +kernel)]
  decide +kernel
theorem rR_97_45 (c : Nat) : rR c 97 45 = some 126 := by
  unfold rR
  rw [if_neg (by decide), if_neg (by decide), if_neg (by decide), if_neg (by decide), if_neg (by decide +kernel), if_neg (by decide +kernel)]
  decide +kernel
theorem rR_97_46 (c : Nat) : rR c 97 46 = some 127 := by
  unfold rR
  rw [if_neg (by decide), if_neg (by decide), if_neg (by decide), if_neg (by decide), if_neg (by decide +kernel), if_neg (by decide +kernel)]
  decide +kernel
theorem rR_97_47 (c : Nat) : rR c 97 47 = some 128 := by
  unfold rR
  rw [if_neg (by decide), if_neg (by decide), if_neg (by decide), if_neg (by decide), if_neg (by decide +kernel), if_neg (by decide +kernel)]
  decide +kernel
theorem rR_97_48 (c : Nat) : rR c 97 48 = some 129 := by
  unfold rR
  rw [if_neg (by decide), if_neg (by decide), if_neg (by decide), if_neg (by decide), if_neg (by decide +kernel), if_neg (by decide +kernel)]
  decide +kernel
theorem rR_97_49 (c : Nat) : rR c 97 49 = some 130 := by
  unfold rR
  rw [if_neg (by decide), if_neg (by decide), if_neg (by decide), if_neg (by decide), if_neg (by decide +kernel), if_neg (by decide +kernel)]
  decide +kernel
theorem rR_97_50 (c : Nat) : rR c 97 50 = some 131 := by
  unfold rR
  rw [if_neg (by decide), if_neg (by decide), if_neg (by decide), if_neg (by decide), if_neg (by decide +kernel), if_neg (by decide +kernel)]
  decide +kernel
theorem rR_97_52 (c : Nat) : rR c 97 52 = some 132 := by
  unfold rR
  rw [if_neg (by decide), if_neg (by decide), if_neg (by decide), if_neg (by decide), if_neg (by decide +kernel), if_neg (by decide +kernel)]
  decide +kernel
theorem rR_97_53 (c : Nat) : rR c 97 53 = some 133 := by
  unfold rR
  rw [if_neg (by decide), if_neg (by decide), if_neg (by decide), if_neg (by decide), if_neg (by decide +kernel), if_neg (by decide +kernel)]
  decide +kernel
theorem rR_97_54 (c : Nat) : rR c 97 54 = some 134 := by
  unfold rR
  rw [if_neg (by decide), if_neg (by decide), if_neg (by decide), if_neg (by decide), if_neg (by decide +kernel), if_neg (by decide +kernel)]
  decide +kernel
theorem rR_97_56 (c : Nat) : rR c 97 56 = some 135 := by
  unfold rR
  rw [if_neg (by decide), if_neg (by decide), if_neg (by decide), if_neg (by decide), if_neg (by decide +kernel), if_neg (by decide +kernel)]
  decide +kernel
theorem rR_97_58 (c : Nat) : rR c 97 58 = some 136 := by
  unfold rR
  rw [if_neg (by decide), if_neg (by decide), if_neg (by decide), if_neg (by decide), if_neg (by decide +kernel), if_neg (by decide +kernel)]
  decide +kernel
theorem rR_97_59 (c : Nat) : rR c 97 59 = some 137 := by
  unfold rR
  rw [if_neg (by decide), if_neg (by decide), if_neg (by decide), if_neg (by decide), if_neg (by decide +kernel), if_neg (by decide +kernel)]
  decide +kernel
theorem rR_97_60 (c : Nat) : rR c 97 60 = some 138 := by
  unfold rR
  rw [if_neg (by decide), if_neg (by decide), if_neg (by decide), if_neg (by decide), if_neg (by decide +kernel), if_neg (by decide +kernel)]
  decide +kernel
theorem rR_97_61 (c : Nat) : rR c 97 61 = some 139 := by
  unfold rR
  rw [if_neg (by decide), if_neg (by decide), if_neg (by decide), if_neg (by decide), if_neg (by decide +kernel), if_neg (by decide +kernel)]
  decide +kernel
theorem rR_97_62 (c : Nat) : rR c 97 62 = some 140 := by
  unfold rR
  rw [if_neg (by decide), if_neg (by decide), if_neg (by decide), if_neg (by decide), if_neg (by decide +kernel), if_neg (by decide +kernel)]
  decide +kernel
theorem rR_97_63 (c : Nat) : rR c 97 63 = some 141 := by
  unfold rR
  rw [if_neg (by decide), if_neg (by decide), if_neg (by decide), if_neg (by decide), if_neg (by decide +kernel), if_neg (by decide +kernel)]
  decide +kernel
theorem rR_97_64 (c : Nat) : rR c 97 64 = some 142 := by
  unfold rR
  rw [if_neg (by decide), if_neg (by decide), if_neg (by decide), if_neg (by decide), if_neg (by decide +kernel), if_neg (by decide +kernel)]
  decide +kernel
theorem rR_97_65 (c : Nat) : rR c 97 65 = some 143 := by
  unfold rR
  rw [if_neg (by decide), if_neg (by decide), if_neg (by decide), if_neg (by decide), if_neg (by decide +kernel), if_neg (by decide +kernel)]
  decide +kernel
theorem rR_97_66 (c : Nat) : rR c 97 66 = some 144 := by
  unfold rR
  rw [if_neg (by decide), if_neg (by decide), if_neg (by decide), if_neg (by decide), if_neg (by decide +kernel), if_neg (by decide +kernel)]
  decide +kernel
theorem rR_row (c : Nat) {m : Nat} (h : m < 16) : rR c 5 m = some (6 + 2 * m) := by simp [rR, h]
theorem rR_codes (c : Nat) {m : Nat} (h : m < 12) : rR c 41 m = some (42 + m) := by simp [rR, h]
theorem rR_sheets (c : Nat) {m : Nat} (h : m < 4) : rR c 88 m = some (89 + 2 * m) := by simp [rR, h]
theorem rR_code (c : Nat) : rR c 55 7 = some (42 + c) := by simp [rR]
theorem rR_steps (c : Nat) {m : Nat} (h : m < 16) : rR c (6 + 2 * m) 7 = some (6 + 2 * m + 1) := by
  have h1 := kK_mark m h
  unfold rR
  rw [if_neg (by omega), if_neg (by omega), if_neg (by omega), if_neg (by omega), if_pos h1, if_pos rfl]
theorem rR_items (c : Nat) {m : Nat} (h : m < 4) : rR c (89 + 2 * m) 1 = some (89 + 2 * m + 1) := by
  have h1 := kK_sheet m h
  unfold rR
  rw [if_neg (by omega), if_neg (by omega), if_neg (by omega), if_neg (by omega), if_neg (by rw [h1]; decide), if_pos h1, if_pos rfl]
def fRL : List (List Nat) := [[0, 0, 0, 2, 2, 2, 2, 2, 2, 2, 2, 0, 2, 2, 2], [2, 2, 2, 2], [0, 0, 0, 0, 1, 1, 0, 2, 0], [2, 0, 2], [0, 0, 2, 2, 2, 2, 2, 2, 2, 2, 2, 2], [0, 2, 2, 2, 2, 2, 0, 2], [2, 0, 2, 2, 0, 0, 0, 2, 0], [0, 2, 0], [2, 2], [2, 0, 0, 2, 2, 2, 2], [2, 2, 0, 0], [2, 2, 2, 2, 2, 2, 2, 2, 2], [2, 2, 0, 0, 0, 2, 2, 2, 2, 2, 2, 2, 2, 2, 0, 0, 2, 2, 2, 0, 0, 0, 0, 2, 2, 0, 0, 0, 0, 2, 2, 0, 2, 2, 2, 2, 2, 0, 0, 0, 2, 2, 2, 2, 2, 2, 2, 2, 2, 2, 2, 0, 2, 2, 2, 0, 2, 0, 2, 2, 2, 2, 2, 2, 2, 2, 2]]
/-- a field: 0 an int, 1 a boolean, 2 a reference -/
def fK (ci k : Nat) : Nat := (((fRL[ci]?).getD [])[k]?).getD 9
def fN (ci : Nat) : Nat := ((fRL[ci]?).getD []).length
theorem fK_0_0 : fK 0 0 = 0 := by decide +kernel
theorem fK_0_1 : fK 0 1 = 0 := by decide +kernel
theorem fK_0_2 : fK 0 2 = 0 := by decide +kernel
theorem fK_0_3 : fK 0 3 = 2 := by decide +kernel
theorem fK_0_4 : fK 0 4 = 2 := by decide +kernel
theorem fK_0_5 : fK 0 5 = 2 := by decide +kernel
theorem fK_0_6 : fK 0 6 = 2 := by decide +kernel
theorem fK_0_7 : fK 0 7 = 2 := by decide +kernel
theorem fK_0_8 : fK 0 8 = 2 := by decide +kernel
theorem fK_0_9 : fK 0 9 = 2 := by decide +kernel
theorem fK_0_10 : fK 0 10 = 2 := by decide +kernel
theorem fK_0_11 : fK 0 11 = 0 := by decide +kernel
theorem fK_0_12 : fK 0 12 = 2 := by decide +kernel
theorem fK_0_13 : fK 0 13 = 2 := by decide +kernel
theorem fK_0_14 : fK 0 14 = 2 := by decide +kernel
theorem fK_1_0 : fK 1 0 = 2 := by decide +kernel
theorem fK_1_1 : fK 1 1 = 2 := by decide +kernel
theorem fK_1_2 : fK 1 2 = 2 := by decide +kernel
theorem fK_1_3 : fK 1 3 = 2 := by decide +kernel
theorem fK_2_0 : fK 2 0 = 0 := by decide +kernel
theorem fK_2_1 : fK 2 1 = 0 := by decide +kernel
theorem fK_2_2 : fK 2 2 = 0 := by decide +kernel
theorem fK_2_3 : fK 2 3 = 0 := by decide +kernel
theorem fK_2_4 : fK 2 4 = 1 := by decide +kernel
theorem fK_2_5 : fK 2 5 = 1 := by decide +kernel
theorem fK_2_6 : fK 2 6 = 0 := by decide +kernel
theorem fK_2_7 : fK 2 7 = 2 := by decide +kernel
theorem fK_2_8 : fK 2 8 = 0 := by decide +kernel
theorem fK_3_0 : fK 3 0 = 2 := by decide +kernel
theorem fK_3_1 : fK 3 1 = 0 := by decide +kernel
theorem fK_3_2 : fK 3 2 = 2 := by decide +kernel
theorem fK_4_0 : fK 4 0 = 0 := by decide +kernel
theorem fK_4_1 : fK 4 1 = 0 := by decide +kernel
theorem fK_4_2 : fK 4 2 = 2 := by decide +kernel
theorem fK_4_3 : fK 4 3 = 2 := by decide +kernel
theorem fK_4_4 : fK 4 4 = 2 := by decide +kernel
theorem fK_4_5 : fK 4 5 = 2 := by decide +kernel
theorem fK_4_6 : fK 4 6 = 2 := by decide +kernel
theorem fK_4_7 : fK 4 7 = 2 := by decide +kernel
theorem fK_4_8 : fK 4 8 = 2 := by decide +kernel
theorem fK_4_9 : fK 4 9 = 2 := by decide +kernel
theorem fK_4_10 : fK 4 10 = 2 := by decide +kernel
theorem fK_4_11 : fK 4 11 = 2 := by decide +kernel
theorem fK_5_0 : fK 5 0 = 0 := by decide +kernel
theorem fK_5_1 : fK 5 1 = 2 := by decide +kernel
theorem fK_5_2 : fK 5 2 = 2 := by decide +kernel
theorem fK_5_3 : fK 5 3 = 2 := by decide +kernel
theorem fK_5_4 : fK 5 4 = 2 := by decide +kernel
theorem fK_5_5 : fK 5 5 = 2 := by decide +kernel
theorem fK_5_6 : fK 5 6 = 0 := by decide +kernel
theorem fK_5_7 : fK 5 7 = 2 := by decide +kernel
theorem fK_6_0 : fK 6 0 = 2 := by decide +kernel
theorem fK_6_1 : fK 6 1 = 0 := by decide +kernel
theorem fK_6_2 : fK 6 2 = 2 := by decide +kernel
theorem fK_6_3 : fK 6 3 = 2 := by decide +kernel
theorem fK_6_4 : fK 6 4 = 0 := by decide +kernel
theorem fK_6_5 : fK 6 5 = 0 := by decide +kernel
theorem fK_6_6 : fK 6 6 = 0 := by decide +kernel
theorem fK_6_7 : fK 6 7 = 2 := by decide +kernel
theorem fK_6_8 : fK 6 8 = 0 := by decide +kernel
theorem fK_7_0 : fK 7 0 = 0 := by decide +kernel
theorem fK_7_1 : fK 7 1 = 2 := by decide +kernel
theorem fK_7_2 : fK 7 2 = 0 := by decide +kernel
theorem fK_8_0 : fK 8 0 = 2 := by decide +kernel
theorem fK_8_1 : fK 8 1 = 2 := by decide +kernel
theorem fK_9_0 : fK 9 0 = 2 := by decide +kernel
theorem fK_9_1 : fK 9 1 = 0 := by decide +kernel
theorem fK_9_2 : fK 9 2 = 0 := by decide +kernel
theorem fK_9_3 : fK 9 3 = 2 := by decide +kernel
theorem fK_9_4 : fK 9 4 = 2 := by decide +kernel
theorem fK_9_5 : fK 9 5 = 2 := by decide +kernel
theorem fK_9_6 : fK 9 6 = 2 := by decide +kernel
theorem fK_10_0 : fK 10 0 = 2 := by decide +kernel
theorem fK_10_1 : fK 10 1 = 2 := by decide +kernel
theorem fK_10_2 : fK 10 2 = 0 := by decide +kernel
theorem fK_10_3 : fK 10 3 = 0 := by decide +kernel
theorem fK_11_0 : fK 11 0 = 2 := by decide +kernel
theorem fK_11_1 : fK 11 1 = 2 := by decide +kernel
theorem fK_11_2 : fK 11 2 = 2 := by decide +kernel
theorem fK_11_3 : fK 11 3 = 2 := by decide +kernel
theorem fK_11_4 : fK 11 4 = 2 := by decide +kernel
theorem fK_11_5 : fK 11 5 = 2 := by decide +kernel
theorem fK_11_6 : fK 11 6 = 2 := by decide +kernel
theorem fK_11_7 : fK 11 7 = 2 := by decide +kernel
theorem fK_11_8 : fK 11 8 = 2 := by decide +kernel
theorem fK_12_0 : fK 12 0 = 2 := by decide +kernel
theorem fK_12_1 : fK 12 1 = 2 := by decide +kernel
theorem fK_12_2 : fK 12 2 = 0 := by decide +kernel
theorem fK_12_3 : fK 12 3 = 0 := by decide +kernel
theorem fK_12_4 : fK 12 4 = 0 := by decide +kernel
theorem fK_12_5 : fK 12 5 = 2 := by decide +kernel
theorem fK_12_6 : fK 12 6 = 2 := by decide +kernel
theorem fK_12_7 : fK 12 7 = 2 := by decide +kernel
theorem fK_12_8 : fK 12 8 = 2 := by decide +kernel
theorem fK_12_9 : fK 12 9 = 2 := by decide +kernel
theorem fK_12_10 : fK 12 10 = 2 := by decide +kernel
theorem fK_12_11 : fK 12 11 = 2 := by decide +kernel
theorem fK_12_12 : fK 12 12 = 2 := by decide +kernel
theorem fK_12_13 : fK 12 13 = 2 := by decide +kernel
theorem fK_12_14 : fK 12 14 = 0 := by decide +kernel
theorem fK_12_15 : fK 12 15 = 0 := by decide +kernel
theorem fK_12_16 : fK 12 16 = 2 := by decide +kernel
theorem fK_12_17 : fK 12 17 = 2 := by decide +kernel
theorem fK_12_18 : fK 12 18 = 2 := by decide +kernel
theorem fK_12_19 : fK 12 19 = 0 := by decide +kernel
theorem fK_12_20 : fK 12 20 = 0 := by decide +kernel
theorem fK_12_21 : fK 12 21 = 0 := by decide +kernel
theorem fK_12_22 : fK 12 22 = 0 := by decide +kernel
theorem fK_12_23 : fK 12 23 = 2 := by decide +kernel
theorem fK_12_24 : fK 12 24 = 2 := by decide +kernel
theorem fK_12_25 : fK 12 25 = 0 := by decide +kernel
theorem fK_12_26 : fK 12 26 = 0 := by decide +kernel
theorem fK_12_27 : fK 12 27 = 0 := by decide +kernel
theorem fK_12_28 : fK 12 28 = 0 := by decide +kernel
theorem fK_12_29 : fK 12 29 = 2 := by decide +kernel
theorem fK_12_30 : fK 12 30 = 2 := by decide +kernel
theorem fK_12_31 : fK 12 31 = 0 := by decide +kernel
theorem fK_12_32 : fK 12 32 = 2 := by decide +kernel
theorem fK_12_33 : fK 12 33 = 2 := by decide +kernel
theorem fK_12_34 : fK 12 34 = 2 := by decide +kernel
theorem fK_12_35 : fK 12 35 = 2 := by decide +kernel
theorem fK_12_36 : fK 12 36 = 2 := by decide +kernel
theorem fK_12_37 : fK 12 37 = 0 := by decide +kernel
theorem fK_12_38 : fK 12 38 = 0 := by decide +kernel
theorem fK_12_39 : fK 12 39 = 0 := by decide +kernel
theorem fK_12_40 : fK 12 40 = 2 := by decide +kernel
theorem fK_12_41 : fK 12 41 = 2 := by decide +kernel
theorem fK_12_42 : fK 12 42 = 2 := by decide +kernel
theorem fK_12_43 : fK 12 43 = 2 := by decide +kernel
theorem fK_12_44 : fK 12 44 = 2 := by decide +kernel
theorem fK_12_45 : fK 12 45 = 2 := by decide +kernel
theorem fK_12_46 : fK 12 46 = 2 := by decide +kernel
theorem fK_12_47 : fK 12 47 = 2 := by decide +kernel
theorem fK_12_48 : fK 12 48 = 2 := by decide +kernel
theorem fK_12_49 : fK 12 49 = 2 := by decide +kernel
theorem fK_12_50 : fK 12 50 = 2 := by decide +kernel
theorem fK_12_51 : fK 12 51 = 0 := by decide +kernel
theorem fK_12_52 : fK 12 52 = 2 := by decide +kernel
theorem fK_12_53 : fK 12 53 = 2 := by decide +kernel
theorem fK_12_54 : fK 12 54 = 2 := by decide +kernel
theorem fK_12_55 : fK 12 55 = 0 := by decide +kernel
theorem fK_12_56 : fK 12 56 = 2 := by decide +kernel
theorem fK_12_57 : fK 12 57 = 0 := by decide +kernel
theorem fK_12_58 : fK 12 58 = 2 := by decide +kernel
theorem fK_12_59 : fK 12 59 = 2 := by decide +kernel
theorem fK_12_60 : fK 12 60 = 2 := by decide +kernel
theorem fK_12_61 : fK 12 61 = 2 := by decide +kernel
theorem fK_12_62 : fK 12 62 = 2 := by decide +kernel
theorem fK_12_63 : fK 12 63 = 2 := by decide +kernel
theorem fK_12_64 : fK 12 64 = 2 := by decide +kernel
theorem fK_12_65 : fK 12 65 = 2 := by decide +kernel
theorem fK_12_66 : fK 12 66 = 2 := by decide +kernel
/-- slots of the first n cells -/
def szL : Nat → Nat | 0 => 0 | n + 1 => szL n + (if (kK n).1 = 10 then fN (kK n).2 else (kK n).2)
