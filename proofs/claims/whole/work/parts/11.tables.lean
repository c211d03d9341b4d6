/-! THE TABLES' WORDS, by numbers: owners 0 to 9 the kinds, 10 Joins, 11 the law, 12 Integer, 13 Math, 14 Arrays -/
def ownL : List String := [RX0, RX2, RX3, RX4, RX5, RX6, RX7, RX8, RX9, RX10, RX1, RL, RJ6, RJ9, RJ7]
def ownN (i : Nat) : String := ownL.getD i ""
/-- a method: its name, bytes, locals, answer, owner, whether static, its handlers -/
abbrev aI : Type := MethodName × ByteArray × Nat × Option FieldType × Nat × Bool × List (Nat × Nat × Nat × Nat)
noncomputable def aInf0 : List aI := [(yX0_init, cX0_init, 1, none, 0, false, []),
  (yX0_begin, cX0_begin, 1, none, 0, false, []),
  (yX0_readFrom, cX0_readFrom, 3, (some .boolean), 0, false, []),
  (yX0_readLine, cX0_readLine, 3, (some .boolean), 0, false, []),
  (yX0_isTold, cX0_isTold, 3, (some .boolean), 0, false, []),
  (yX0_dayLater, cX0_dayLater, 8, (some .int), 0, true, []),
  (yX0_fitting, cX0_fitting, 7, (some .int), 0, false, []),
  (yX0_lookFor, cX0_lookFor, 6, none, 0, false, []),
  (yX0_mostAlike, cX0_mostAlike, 7, (some .int), 0, false, []),
  (yX1_resting, cX1_resting, 5, (some .int), 10, true, []),
  (yX1_going, cX1_going, 3, (some .int), 10, true, []),
  (yX1_joins, cX1_joins, 7, (some .boolean), 10, true, []),
  (yX1_joinedDays, cX1_joinedDays, 4, (some .int), 10, true, []),
  (yX1_daysIfChanged, cX1_daysIfChanged, 7, (some .int), 10, true, []),
  (yX1_fewestCut, cX1_fewestCut, 9, (some .int), 10, true, []),
  (yX1_mostApart, cX1_mostApart, 2, (some .int), 10, true, []),
  (yX1_mostApartFrom, cX1_mostApartFrom, 6, (some .int), 10, true, []),
  (yX2_init, cX2_init, 1, none, 1, false, []),
  (yX2_readFrom, cX2_readFrom, 3, (some .boolean), 1, false, []),
  (yX2_readClause, cX2_readClause, 2, (some .boolean), 1, false, []),
  (yX2_addTown, cX2_addTown, 2, (some .boolean), 1, false, []),
  (yX2_addRoad, cX2_addRoad, 2, (some .boolean), 1, false, []),
  (yX2_addCarter, cX2_addCarter, 2, (some .boolean), 1, false, []),
  (yX2_touches, cX2_touches, 3, (some .boolean), 1, false, []),
  (yX2_acrossFrom, cX2_acrossFrom, 3, (some .int), 1, false, []),
  (yX2_endsAsBits, cX2_endsAsBits, 2, (some .int), 1, false, []),
  (yX2_roadsFrom, cX2_roadsFrom, 4, (some .int), 1, false, []),
  (yX3_init, cX3_init, 1, none, 2, false, []),
  (yX3_begin, cX3_begin, 1, none, 2, false, []),
  (yX3_readFrom, cX3_readFrom, 2, (some .boolean), 2, false, []),
  (yX3_put, cX3_put, 3, (some .boolean), 2, false, []),
  (yX3_readSum, cX3_readSum, 5, (some .boolean), 2, false, []),
  (yX3_readProduct, cX3_readProduct, 5, (some .boolean), 2, false, []),
  (yX3_readUnit, cX3_readUnit, 4, (some .boolean), 2, false, []),
  (yX3_opens, cX3_opens, 3, (some .boolean), 2, false, []),
  (yX3_readTwo, cX3_readTwo, 3, (some .boolean), 2, false, []),
  (yX3_readGiven, cX3_readGiven, 1, (some .int), 2, true, []),
  (yX3_pace, cX3_pace, 3, (some .int), 2, false, []),
  (yX3_outOf, cX3_outOf, 3, (some .int), 2, true, []),
  (yX3_plainPace, cX3_plainPace, 3, (some .int), 2, false, []),
  (yX4_init, cX4_init, 1, none, 3, false, []),
  (yX4_begin, cX4_begin, 1, none, 3, false, []),
  (yX4_keepWork, cX4_keepWork, 2, none, 3, false, []),
  (yX4_takeWorkBack, cX4_takeWorkBack, 2, none, 3, false, []),
  (yX4_keepImage, cX4_keepImage, 4, none, 3, false, []),
  (yX4_takeImageBack, cX4_takeImageBack, 4, none, 3, false, []),
  (yX5_init, cX5_init, 1, none, 4, false, []),
  (yX5_begin, cX5_begin, 2, none, 4, false, []),
  (yX5_saveIn, cX5_saveIn, 3, none, 4, false, []),
  (yX5_takeFrom, cX5_takeFrom, 3, none, 4, false, [])]
noncomputable def aInf1 : List aI := [(yX5_become, cX5_become, 2, none, 4, false, []),
  (yX5_weekDay, cX5_weekDay, 1, (some .int), 4, false, []),
  (yX5_rests, cX5_rests, 2, (some .boolean), 4, false, []),
  (yX5_travellers, cX5_travellers, 4, (some .int), 4, false, []),
  (yX5_cartersIn, cX5_cartersIn, 5, (some .int), 4, false, []),
  (yX5_cartersOn, cX5_cartersOn, 5, (some .int), 4, false, []),
  (yX5_tiredTogether, cX5_tiredTogether, 4, (some .int), 4, false, []),
  (yX5_paceNow, cX5_paceNow, 7, (some .int), 4, false, []),
  (yX5_setOut, cX5_setOut, 4, (some .boolean), 4, false, []),
  (yX5_turnRound, cX5_turnRound, 4, (some .boolean), 4, false, []),
  (yX5_loadAnew, cX5_loadAnew, 3, (some .boolean), 4, false, []),
  (yX5_offAnew, cX5_offAnew, 3, (some .boolean), 4, false, []),
  (yX5_passHour, cX5_passHour, 4, none, 4, false, []),
  (yX5_passOn, cX5_passOn, 6, none, 4, false, []),
  (yX5_goOn, cX5_goOn, 4, none, 4, false, []),
  (yX5_drawHour, cX5_drawHour, 5, none, 4, false, []),
  (yX5_draw, cX5_draw, 2, (some .int), 4, false, []),
  (yX6_init, cX6_init, 1, none, 5, false, []),
  (yX6_readFrom, cX6_readFrom, 3, (some .boolean), 5, false, []),
  (yX6_readSteps, cX6_readSteps, 5, (some .boolean), 5, false, []),
  (yX6_readStep, cX6_readStep, 4, (some .boolean), 5, false, []),
  (yX6_readTwo, cX6_readTwo, 6, (some .boolean), 5, false, []),
  (yX6_readAgain, cX6_readAgain, 5, (some .boolean), 5, false, []),
  (yX6_put, cX6_put, 4, (some .boolean), 5, false, []),
  (yX6_run, cX6_run, 7, none, 5, false, []),
  (yX6_behindAgain, cX6_behindAgain, 3, (some .int), 5, false, []),
  (yX6_behindTurn, cX6_behindTurn, 2, (some .int), 5, false, []),
  (yX6_doStep, cX6_doStep, 7, (some .boolean), 5, false, []),
  (yX7_init, cX7_init, 1, none, 6, false, []),
  (yX7_put, cX7_put, 3, none, 6, false, []),
  (yX7_open, cX7_open, 2, none, 6, false, []),
  (yX7_moveTo, cX7_moveTo, 2, none, 6, false, []),
  (yX7_ends, cX7_ends, 1, (some .boolean), 6, false, []),
  (yX7_stands, cX7_stands, 2, (some .boolean), 6, false, []),
  (yX7_digitStands, cX7_digitStands, 1, (some .boolean), 6, false, []),
  (yX7_isDigit, cX7_isDigit, 1, (some .boolean), 6, true, []),
  (yX7_isLetter, cX7_isLetter, 1, (some .boolean), 6, true, []),
  (yX7_takes, cX7_takes, 2, (some .boolean), 6, false, []),
  (yX7_needs, cX7_needs, 2, (some .boolean), 6, false, []),
  (yX7_takesWord, cX7_takesWord, 4, (some .boolean), 6, false, []),
  (yX7_needsNumber, cX7_needsNumber, 4, (some .boolean), 6, false, []),
  (yX7_failHere, cX7_failHere, 2, (some .boolean), 6, false, []),
  (yX7_failAtToken, cX7_failAtToken, 2, (some .boolean), 6, false, []),
  (yX8_init, cX8_init, 1, none, 7, false, []),
  (yX8_taken, cX8_taken, 9, (some .int), 7, true, []),
  (yX8_measure, cX8_measure, 4, none, 7, false, []),
  (yX8_search, cX8_search, 8, none, 7, false, []),
  (yX8_nearest, cX8_nearest, 6, (some .int), 7, false, []),
  (yX8_leave, cX8_leave, 8, none, 7, false, []),
  (yX8_by, cX8_by, 7, (some .int), 7, false, [])]
noncomputable def aInf2 : List aI := [(yX8_trace, cX8_trace, 8, none, 7, false, []),
  (yX8_lastRoad, cX8_lastRoad, 6, (some .int), 7, false, []),
  (yX9_init, cX9_init, 1, none, 8, false, []),
  (yX9_feed, cX9_feed, 6, (some .int), 8, false, []),
  (yX9_land, cX9_land, 3, (some .int), 8, false, []),
  (yX9_law, cX9_law, 3, (some .int), 8, false, []),
  (yX9_work, cX9_work, 2, (some .int), 8, false, []),
  (yX9_book, cX9_book, 3, (some .int), 8, false, []),
  (yX9_fault, cX9_fault, 1, (some .int), 8, false, []),
  (yX9_undo, cX9_undo, 1, (some .int), 8, false, []),
  (yX9_told, cX9_told, 2, (some .int), 8, false, []),
  (yX9_town, cX9_town, 3, (some .int), 8, false, []),
  (yX9_road, cX9_road, 3, (some .int), 8, false, []),
  (yX9_carter, cX9_carter, 3, (some .int), 8, false, []),
  (yX9_would, cX9_would, 9, (some .int), 8, false, []),
  (yX9_lasts, cX9_lasts, 3, (some .int), 8, false, []),
  (yX9_soon, cX9_soon, 4, (some .int), 8, false, []),
  (yX9_way, cX9_way, 5, (some .int), 8, false, []),
  (yX9_latest, cX9_latest, 11, (some .int), 8, false, []),
  (yX9_day, cX9_day, 9, (some .int), 8, false, []),
  (yX9_farthest, cX9_farthest, 7, (some .int), 8, false, []),
  (yX9_joined, cX9_joined, 2, (some .boolean), 8, false, []),
  (yX9_part, cX9_part, 4, (some .int), 8, false, []),
  (yX9_mend, cX9_mend, 9, (some .int), 8, false, []),
  (yX9_picnic, cX9_picnic, 2, (some .int), 8, false, []),
  (yX9_fits, cX9_fits, 2, (some .int), 8, false, []),
  (yX9_look, cX9_look, 3, (some .int), 8, false, []),
  (yX9_inn, cX9_inn, 10, (some .int), 8, false, []),
  (yX9_innShare, cX9_innShare, 4, (some .int), 8, true, []),
  (yX9_luck, cX9_luck, 12, (some .long), 8, false, []),
  (yX9_power, cX9_power, 5, (some .long), 8, true, []),
  (yX9_oats, cX9_oats, 6, (some .int), 8, false, []),
  (yX9_given, cX9_given, 5, (some .int), 8, false, []),
  (yX9_weariest, cX9_weariest, 5, (some .int), 8, false, []),
  (yX9_arrives, cX9_arrives, 4, (some .int), 8, false, []),
  (yX9_reach, cX9_reach, 5, (some .int), 8, false, []),
  (yX9_year, cX9_year, 5, (some .int), 8, false, []),
  (yX9_span, cX9_span, 12, (some .int), 8, false, []),
  (yX9_liveYear, cX9_liveYear, 5, none, 8, false, []),
  (yX9_image, cX9_image, 1, (some .int), 8, false, []),
  (yX9_restore, cX9_restore, 1, (some .int), 8, false, []),
  (yX9_status, cX9_status, 2, (some .int), 8, false, []),
  (yX9_count, cX9_count, 2, (some .int), 8, false, []),
  (yX9_within, cX9_within, 3, (some .boolean), 8, true, []),
  (yX9_require, cX9_require, 2, none, 8, false, []),
  (yX9_requireWeekDay, cX9_requireWeekDay, 2, none, 8, false, []),
  (yX9_requireThere, cX9_requireThere, 3, none, 8, false, []),
  (yX9_requireTown, cX9_requireTown, 2, none, 8, false, []),
  (yX9_requireRoad, cX9_requireRoad, 2, none, 8, false, []),
  (yX9_requireCarter, cX9_requireCarter, 2, none, 8, false, [])]
noncomputable def aInf3 : List aI := [(yX9_openText, cX9_openText, 3, none, 8, false, []),
  (yX9_faulty, cX9_faulty, 1, (some .int), 8, false, []),
  (yX10_thrown, cX10_thrown, 1, (some .int), 9, false, []),
  (yX10_may, cX10_may, 4, (some .boolean), 9, false, []),
  (yX10_within, cX10_within, 3, (some .boolean), 9, true, []),
  (yX10_init, cX10_init, 1, none, 9, false, []),
  (yX10_feed, cX10_feed, 8, (some .int), 9, false, []),
  (yX10_fine, cX10_fine, 1, (some .boolean), 9, false, []),
  (yX10_wrong, cX10_wrong, 3, none, 9, false, []),
  (yX10_here, cX10_here, 1, (some .int), 9, false, []),
  (yX10_isSmall, cX10_isSmall, 1, (some .boolean), 9, true, []),
  (yX10_isDigit, cX10_isDigit, 1, (some .boolean), 9, true, []),
  (yX10_word, cX10_word, 4, (some .int), 9, false, []),
  (yX10_of, cX10_of, 3, (some .int), 9, true, []),
  (yX10_pass, cX10_pass, 1, none, 9, false, []),
  (yX10_readNumber, cX10_readNumber, 6, (some .int), 9, false, []),
  (yX10_sign, cX10_sign, 2, none, 9, false, []),
  (yX10_isMore, cX10_isMore, 1, (some .boolean), 9, false, []),
  (yX10_begins, cX10_begins, 2, none, 9, false, []),
  (yX10_result, cX10_result, 2, (some .int), 9, false, []),
  (yX10_fault, cX10_fault, 1, (some .int), 9, false, []),
  (yX10_copies, cX10_copies, 5, none, 9, false, []),
  (yX10_clears, cX10_clears, 1, none, 9, false, []),
  (yX10_sets, cX10_sets, 2, none, 9, false, []),
  (yX10_isRow, cX10_isRow, 1, (some .boolean), 9, true, []),
  (yX10_isFull, cX10_isFull, 2, (some .boolean), 9, false, []),
  (yX10_readTown, cX10_readTown, 1, (some .int), 9, false, []),
  (yX10_readRoad, cX10_readRoad, 6, none, 9, false, []),
  (yX10_readRow, cX10_readRow, 2, none, 9, false, []),
  (yX10_land, cX10_land, 4, (some .int), 9, false, []),
  (yX10_emit, cX10_emit, 3, none, 9, false, []),
  (yX10_opensOne, cX10_opensOne, 2, none, 9, false, []),
  (yX10_readSum, cX10_readSum, 2, none, 9, false, []),
  (yX10_readProduct, cX10_readProduct, 2, none, 9, false, []),
  (yX10_readTwo, cX10_readTwo, 3, none, 9, false, []),
  (yX10_factHere, cX10_factHere, 2, (some .int), 9, false, []),
  (yX10_readUnit, cX10_readUnit, 2, none, 9, false, []),
  (yX10_law, cX10_law, 3, (some .int), 9, false, []),
  (yX10_valueNow, cX10_valueNow, 4, (some .int), 9, false, []),
  (yX10_both, cX10_both, 3, (some .int), 9, true, []),
  (yX10_paceNow, cX10_paceNow, 2, (some .int), 9, false, []),
  (yX10_tellsStep, cX10_tellsStep, 4, none, 9, false, []),
  (yX10_stepOf, cX10_stepOf, 1, (some .int), 9, true, []),
  (yX10_readAgain, cX10_readAgain, 3, none, 9, false, []),
  (yX10_readStep, cX10_readStep, 3, none, 9, false, []),
  (yX10_work, cX10_work, 4, (some .int), 9, false, []),
  (yX10_goesSteps, cX10_goesSteps, 6, none, 9, false, []),
  (yX10_take, cX10_take, 1, none, 9, false, []),
  (yX10_dayOf, cX10_dayOf, 1, (some .int), 9, true, []),
  (yX10_rests, cX10_rests, 3, (some .boolean), 9, false, [])]
noncomputable def aInf4 : List aI := [(yX10_cartersOn, cX10_cartersOn, 4, (some .int), 9, false, []),
  (yX10_ones, cX10_ones, 3, (some .int), 9, true, []),
  (yX10_paceOf, cX10_paceOf, 9, (some .int), 9, false, []),
  (yX10_paceBy, cX10_paceBy, 4, (some .int), 9, false, []),
  (yX10_plainOf, cX10_plainOf, 2, (some .int), 9, false, []),
  (yX10_otherOf, cX10_otherOf, 3, (some .int), 9, false, []),
  (yX10_goesFrom, cX10_goesFrom, 3, (some .boolean), 9, false, []),
  (yX10_isSet, cX10_isSet, 3, (some .boolean), 9, false, []),
  (yX10_isTurned, cX10_isTurned, 3, (some .boolean), 9, false, []),
  (yX10_dayGoes, cX10_dayGoes, 3, none, 9, false, []),
  (yX10_isDone, cX10_isDone, 5, (some .boolean), 9, false, []),
  (yX10_book, cX10_book, 6, (some .int), 9, false, []),
  (yX10_undo, cX10_undo, 2, (some .int), 9, false, []),
  (yX10_onRoads, cX10_onRoads, 3, (some .int), 9, false, []),
  (yX10_resting, cX10_resting, 3, (some .int), 9, false, []),
  (yX10_told, cX10_told, 2, (some .int), 9, false, []),
  (yX10_isTown, cX10_isTown, 2, (some .boolean), 9, false, []),
  (yX10_isRoad, cX10_isRoad, 2, (some .boolean), 9, false, []),
  (yX10_isCarter, cX10_isCarter, 2, (some .boolean), 9, false, []),
  (yX10_town, cX10_town, 5, (some .int), 9, false, []),
  (yX10_road, cX10_road, 3, (some .int), 9, false, []),
  (yX10_carter, cX10_carter, 3, (some .int), 9, false, []),
  (yX10_would, cX10_would, 9, (some .int), 9, false, []),
  (yX10_laysPlain, cX10_laysPlain, 2, none, 9, false, []),
  (yX10_takenOf, cX10_takenOf, 6, (some .int), 9, false, []),
  (yX10_lasts, cX10_lasts, 3, (some .int), 9, false, []),
  (yX10_laysSoon, cX10_laysSoon, 7, none, 9, false, []),
  (yX10_soonOf, cX10_soonOf, 4, (some .int), 9, false, []),
  (yX10_soon, cX10_soon, 4, (some .int), 9, false, []),
  (yX10_lastRoad, cX10_lastRoad, 5, (some .int), 9, false, []),
  (yX10_way, cX10_way, 9, (some .int), 9, false, []),
  (yX10_latest, cX10_latest, 7, (some .int), 9, false, []),
  (yX10_day, cX10_day, 9, (some .int), 9, false, []),
  (yX10_farthest, cX10_farthest, 7, (some .int), 9, false, []),
  (yX10_reach, cX10_reach, 5, (some .int), 9, false, []),
  (yX10_goingOn, cX10_goingOn, 4, (some .int), 9, false, []),
  (yX10_cameTo, cX10_cameTo, 7, (some .int), 9, false, []),
  (yX10_areJoined, cX10_areJoined, 2, (some .boolean), 9, false, []),
  (yX10_joinedDays, cX10_joinedDays, 3, (some .int), 9, false, []),
  (yX10_joined, cX10_joined, 2, (some .boolean), 9, false, []),
  (yX10_part, cX10_part, 7, (some .int), 9, false, []),
  (yX10_mend, cX10_mend, 8, (some .int), 9, false, []),
  (yX10_picnic, cX10_picnic, 9, (some .int), 9, false, []),
  (yX10_milesBy, cX10_milesBy, 6, (some .int), 9, false, []),
  (yX10_fitBits, cX10_fitBits, 6, (some .int), 9, false, []),
  (yX10_fits, cX10_fits, 2, (some .int), 9, false, []),
  (yX10_worstOf, cX10_worstOf, 8, (some .int), 9, false, []),
  (yX10_isWritten, cX10_isWritten, 3, (some .boolean), 9, false, []),
  (yX10_look, cX10_look, 8, (some .int), 9, false, []),
  (yX10_hasBy, cX10_hasBy, 4, (some .int), 9, true, [])]
noncomputable def aInf5 : List aI := [(yX10_inn, cX10_inn, 9, (some .int), 9, false, []),
  (yX10_least, cX10_least, 11, (some .long), 9, true, []),
  (yX10_luck, cX10_luck, 10, (some .long), 9, false, []),
  (yX10_bounded, cX10_bounded, 3, (some .int), 9, false, []),
  (yX10_oatsBy, cX10_oatsBy, 5, (some .int), 9, false, []),
  (yX10_oats, cX10_oats, 5, (some .int), 9, false, []),
  (yX10_weariest, cX10_weariest, 4, (some .int), 9, false, []),
  (yX10_arrives, cX10_arrives, 3, (some .int), 9, false, []),
  (yX10_draws, cX10_draws, 2, (some .int), 9, false, []),
  (yX10_yearGoes, cX10_yearGoes, 6, none, 9, false, []),
  (yX10_isYear, cX10_isYear, 2, (some .boolean), 9, true, []),
  (yX10_year, cX10_year, 7, (some .int), 9, false, []),
  (yX10_span, cX10_span, 12, (some .int), 9, false, []),
  (yX10_keepsRow, cX10_keepsRow, 6, (some .int), 9, false, []),
  (yX10_keepsAll, cX10_keepsAll, 4, none, 9, false, []),
  (yX10_image, cX10_image, 1, (some .int), 9, false, []),
  (yX10_restore, cX10_restore, 1, (some .int), 9, false, []),
  (yX10_status, cX10_status, 2, (some .int), 9, false, []),
  (yX10_count, cX10_count, 2, (some .int), 9, false, []),
  (yL_land, cL_land, 4, (some .int), 11, true, [(0, 9, 12, 13)]),
  (yL_law, cL_law, 4, (some .int), 11, true, [(0, 9, 12, 13)]),
  (yL_work, cL_work, 4, (some .int), 11, true, [(0, 9, 12, 13)]),
  (yL_book, cL_book, 4, (some .int), 11, true, [(0, 9, 12, 13)]),
  (yL_told, cL_told, 4, (some .int), 11, true, [(0, 9, 12, 13)]),
  (yL_town, cL_town, 5, (some .int), 11, true, [(0, 10, 13, 31), (0, 10, 17, 13)]),
  (yL_road, cL_road, 5, (some .int), 11, true, [(0, 10, 13, 31), (0, 10, 17, 13)]),
  (yL_carter, cL_carter, 5, (some .int), 11, true, [(0, 10, 13, 31), (0, 10, 17, 13)]),
  (yL_would, cL_would, 11, (some .int), 11, true, [(0, 22, 25, 13)]),
  (yL_lasts, cL_lasts, 5, (some .int), 11, true, [(0, 10, 13, 31), (0, 10, 17, 13)]),
  (yL_soon, cL_soon, 6, (some .int), 11, true, [(0, 12, 15, 31), (0, 12, 19, 13)]),
  (yL_way, cL_way, 7, (some .int), 11, true, [(0, 14, 17, 31), (0, 14, 21, 13)]),
  (yL_latest, cL_latest, 7, (some .int), 11, true, [(0, 14, 17, 31), (0, 14, 21, 13)]),
  (yL_day, cL_day, 6, (some .int), 11, true, [(0, 12, 15, 31), (0, 12, 19, 13)]),
  (yL_farthest, cL_farthest, 4, (some .int), 11, true, [(0, 9, 12, 13)]),
  (yL_joined, cL_joined, 4, (some .int), 11, true, [(0, 16, 19, 13)]),
  (yL_part, cL_part, 6, (some .int), 11, true, [(0, 12, 15, 31), (0, 12, 19, 13)]),
  (yL_mend, cL_mend, 4, (some .int), 11, true, [(0, 9, 12, 13)]),
  (yL_picnic, cL_picnic, 4, (some .int), 11, true, [(0, 9, 12, 13)]),
  (yL_fits, cL_fits, 4, (some .int), 11, true, [(0, 9, 12, 31)]),
  (yL_look, cL_look, 5, (some .int), 11, true, [(0, 10, 13, 31), (0, 10, 17, 13)]),
  (yL_inn, cL_inn, 6, (some .int), 11, true, [(0, 12, 15, 13)]),
  (yL_luck, cL_luck, 7, (some .int), 11, true, [(0, 13, 16, 13)]),
  (yL_oats, cL_oats, 6, (some .int), 11, true, [(0, 12, 15, 31), (0, 12, 19, 13)]),
  (yL_weariest, cL_weariest, 4, (some .int), 11, true, [(0, 9, 12, 13)]),
  (yL_arrives, cL_arrives, 4, (some .int), 11, true, [(0, 9, 12, 31)]),
  (yL_reach, cL_reach, 5, (some .int), 11, true, [(0, 10, 13, 31), (0, 10, 17, 13)]),
  (yL_year, cL_year, 7, (some .int), 11, true, [(0, 14, 17, 13)]),
  (yL_span, cL_span, 9, (some .int), 11, true, [(0, 18, 21, 13)]),
  (yJ6_bitCount_0f7a4, cJ6_bitCount_0f7a4, 1, (some .int), 12, true, []),
  (yJ9_max_7cf53, cJ9_max_7cf53, 2, (some .int), 13, true, [])]
noncomputable def aInf6 : List aI := [(yJ9_min_7cf53, cJ9_min_7cf53, 2, (some .int), 13, true, []),
  (yJ7_fill_53178, cJ7_fill_53178, 4, none, 14, true, [])]
noncomputable def aInfL : List aI := [(yL_law_, cL_law_, 8, (some .boolean), 11, true, [])]
noncomputable def aInf : List aI := aInf0 ++ (aInf1 ++ (aInf2 ++ (aInf3 ++ (aInf4 ++ (aInf5 ++ (aInf6 ++ (aInfL)))))))
def fldT : List (Nat × Nat × Nat × Nat) := [(0, 9, 0, 0), (0, 15, 0, 1), (0, 18, 0, 2), (0, 21, 0, 3), (0, 25, 0, 4), (0, 28, 0, 5), (0, 49, 6, 5), (10, 9, 1, 7), (10, 15, 4, 0), (10, 27, 1, 6), (10, 41, 1, 0), (10, 44, 1, 1), (1, 9, 1, 0), (1, 15, 1, 1), (1, 18, 1, 2), (1, 21, 1, 3), (1, 24, 1, 4), (1, 27, 1, 5), (1, 30, 1, 6), (1, 34, 1, 7), (1, 37, 1, 8), (1, 84, 6, 5), (2, 9, 2, 0), (2, 15, 2, 1), (2, 18, 2, 2), (2, 21, 2, 3), (2, 24, 2, 4), (2, 62, 6, 5), (2, 124, 1, 2), (3, 13, 3, 0), (3, 18, 3, 1), (3, 21, 3, 2), (3, 25, 3, 3), (3, 29, 3, 4), (4, 9, 4, 0), (4, 15, 4, 1), (4, 18, 4, 2), (4, 21, 4, 3), (4, 24, 4, 4), (4, 27, 4, 5), (4, 30, 4, 6), (4, 33, 4, 7), (4, 36, 4, 8), (4, 40, 4, 9), (4, 43, 4, 10), (4, 46, 1, 3), (4, 63, 1, 4), (4, 66, 1, 5), (4, 80, 1, 8), (4, 83, 1, 7), (4, 86, 2, 3), (4, 91, 1, 2), (5, 9, 5, 0), (5, 15, 5, 1), (5, 18, 5, 2), (5, 21, 5, 3), (5, 24, 5, 4), (5, 28, 5, 5), (5, 31, 5, 6), (5, 34, 5, 7), (5, 67, 1, 8), (5, 72, 1, 7), (5, 85, 6, 5), (5, 134, 4, 8), (6, 9, 6, 0), (6, 15, 6, 1), (6, 19, 6, 2), (6, 22, 6, 3), (6, 25, 6, 4), (6, 28, 6, 5), (6, 31, 6, 6), (6, 34, 6, 7), (7, 9, 7, 0), (7, 15, 7, 1), (7, 18, 7, 2), (7, 22, 7, 3), (7, 25, 7, 4), (7, 28, 1, 7), (7, 45, 1, 6), (7, 67, 1, 2), (7, 70, 4, 0), (8, 10, 8, 0), (8, 19, 8, 1), (8, 26, 8, 2), (8, 30, 8, 3), (8, 36, 8, 4), (8, 43, 8, 5), (8, 50, 8, 6), (8, 54, 8, 7), (8, 60, 8, 8), (8, 64, 8, 9), (8, 70, 8, 10), (8, 74, 8, 11), (8, 77, 8, 12), (8, 81, 8, 13), (8, 84, 8, 14), (8, 87, 8, 15), (8, 94, 6, 1), (8, 117, 1, 6), (8, 121, 3, 3), (8, 135, 5, 7), (8, 138, 5, 6), (8, 142, 0, 3), (8, 152, 1, 7), (8, 155, 1, 8), (8, 158, 4, 8), (8, 174, 4, 9), (8, 191, 1, 0), (8, 195, 1, 1), (8, 198, 1, 2), (8, 201, 4, 0), (8, 204, 4, 1), (8, 224, 4, 2), (8, 227, 4, 4), (8, 230, 4, 5), (8, 233, 4, 6), (8, 236, 4, 3), (8, 243, 2, 3), (8, 261, 7, 1), (8, 267, 7, 2), (8, 270, 7, 3), (8, 273, 7, 4), (8, 313, 0, 4), (8, 316, 0, 5), (8, 352, 4, 10), (8, 362, 3, 4), (8, 389, 6, 7), (8, 390, 6, 6), (9, 3, 9, 0), (9, 7, 9, 1), (9, 17, 9, 8), (9, 20, 9, 9), (9, 23, 9, 10), (9, 26, 9, 11), (9, 29, 9, 12), (9, 32, 9, 13), (9, 35, 9, 20), (9, 38, 9, 21), (9, 41, 9, 22), (9, 44, 9, 23), (9, 47, 9, 24), (9, 50, 9, 27), (9, 53, 9, 28), (9, 56, 9, 29), (9, 59, 9, 36), (9, 62, 9, 37), (9, 65, 9, 38), (9, 68, 9, 39), (9, 71, 9, 40), (9, 74, 9, 41), (9, 77, 9, 43), (9, 80, 9, 44), (9, 83, 9, 45), (9, 86, 9, 46), (9, 90, 9, 48), (9, 99, 9, 2), (9, 102, 9, 5), (9, 105, 9, 6), (9, 108, 9, 4), (9, 111, 9, 3), (9, 142, 9, 7), (9, 145, 9, 14), (9, 148, 9, 15), (9, 151, 9, 16), (9, 154, 9, 17), (9, 157, 9, 18), (9, 160, 9, 19), (9, 167, 9, 26), (9, 170, 9, 42), (9, 173, 9, 31), (9, 176, 9, 49), (9, 179, 9, 32), (9, 233, 9, 25), (9, 281, 9, 30), (9, 308, 9, 33), (9, 311, 9, 34), (9, 314, 9, 35), (9, 437, 9, 47)]
def fldP : List Nat := [402, 403, 404, 405, 407, 409, 152, 344, 218, 341, 323, 326, 322, 325, 328, 333, 335, 337, 339, 343, 349, 154, 378, 379, 380, 381, 384, 155, 332, 272, 273, 274, 275, 277, 217, 221, 223, 225, 227, 229, 231, 233, 234, 237, 239, 334, 336, 338, 351, 348, 382, 331, 184, 185, 186, 187, 188, 189, 190, 192, 350, 346, 153, 236, 145, 146, 148, 149, 150, 151, 156, 158, 296, 297, 299, 301, 303, 345, 342, 329, 219, 434, 435, 436, 437, 438, 439, 440, 441, 442, 443, 444, 445, 446, 447, 448, 449, 147, 340, 276, 193, 191, 406, 347, 352, 235, 238, 324, 327, 330, 220, 222, 224, 228, 230, 232, 226, 383, 298, 300, 302, 304, 408, 410, 240, 278, 159, 157, 1363, 1364, 1371, 1372, 1373, 1374, 1375, 1376, 1383, 1384, 1385, 1386, 1387, 1390, 1391, 1392, 1399, 1400, 1401, 1402, 1403, 1404, 1406, 1407, 1408, 1409, 1411, 1365, 1368, 1369, 1367, 1366, 1370, 1377, 1378, 1379, 1380, 1381, 1382, 1389, 1405, 1394, 1412, 1395, 1388, 1393, 1396, 1397, 1398, 1410]
def fldC (t : Nat × Nat × Nat × Nat) : Cond := .fieldLink (ownN t.1) t.2.1 (cT t.2.2.1 t.2.2.2).1 (cT t.2.2.1 t.2.2.2).2.1 (cT t.2.2.1 t.2.2.2).2.2.1
def callT : List (Nat × Nat × Nat) := [(0, 31, 82), (0, 37, 3), (0, 41, 88), (0, 45, 90), (0, 52, 4), (0, 56, 92), (0, 59, 300), (0, 65, 5), (0, 69, 6), (0, 72, 8), (0, 76, 299), (10, 21, 9), (10, 30, 25), (10, 34, 10), (10, 37, 11), (10, 47, 300), (10, 53, 16), (10, 57, 299), (1, 40, 82), (1, 46, 19), (1, 50, 88), (1, 56, 89), (1, 60, 20), (1, 65, 21), (1, 70, 22), (1, 73, 91), (1, 77, 92), (1, 80, 90), (1, 87, 23), (2, 28, 30), (2, 32, 31), (2, 36, 82), (2, 42, 91), (2, 46, 32), (2, 49, 87), (2, 53, 33), (2, 56, 84), (2, 59, 90), (2, 65, 34), (2, 68, 88), (2, 73, 89), (2, 77, 35), (2, 82, 36), (2, 86, 92), (2, 105, 38), (2, 109, 300), (2, 115, 299), (2, 118, 301), (2, 129, 37), (3, 32, 48), (3, 36, 49), (4, 57, 301), (4, 69, 48), (4, 73, 49), (4, 76, 51), (4, 94, 37), (4, 97, 23), (4, 101, 24), (4, 105, 63), (4, 109, 52), (4, 113, 55), (4, 117, 57), (4, 121, 64), (4, 125, 66), (4, 129, 58), (4, 133, 61), (5, 37, 69), (5, 41, 82), (5, 47, 91), (5, 51, 83), (5, 55, 70), (5, 58, 88), (5, 63, 89), (5, 75, 71), (5, 81, 90), (5, 88, 73), (5, 100, 72), (5, 103, 92), (5, 107, 76), (5, 111, 75), (5, 114, 77), (5, 118, 58), (5, 124, 59), (5, 128, 60), (5, 131, 61), (5, 136, 62), (6, 37, 81), (6, 41, 85), (6, 45, 83), (6, 49, 87), (6, 52, 91), (6, 55, 86), (6, 68, 84), (6, 73, 300), (6, 79, 92), (7, 33, 39), (7, 39, 301), (7, 48, 97), (7, 51, 98), (7, 55, 23), (7, 59, 24), (7, 63, 99), (7, 75, 94), (7, 79, 101), (8, 59, 27), (8, 90, 47), (8, 97, 79), (8, 101, 150), (8, 105, 18), (8, 109, 151), (8, 113, 28), (8, 115, 1), (8, 116, 41), (8, 120, 29), (8, 124, 68), (8, 127, 42), (8, 131, 74), (8, 141, 2), (8, 145, 43), (8, 148, 144), (8, 161, 51), (8, 164, 53), (8, 168, 9), (8, 177, 147), (8, 180, 26), (8, 184, 54), (8, 188, 148), (8, 207, 55), (8, 210, 52), (8, 214, 57), (8, 218, 39), (8, 221, 149), (8, 239, 143), (8, 246, 37), (8, 249, 94), (8, 253, 95), (8, 257, 96), (8, 264, 100), (8, 276, 145), (8, 279, 10), (8, 282, 11), (8, 286, 14), (8, 290, 12), (8, 294, 298), (8, 299, 13), (8, 303, 15), (8, 306, 6), (8, 310, 7), (8, 319, 128), (8, 322, 130), (8, 328, 132), (8, 330, 300), (8, 335, 50), (8, 338, 63), (8, 342, 138), (8, 346, 56), (8, 349, 299), (8, 355, 65), (8, 359, 62), (8, 365, 44), (8, 368, 45), (8, 383, 146), (8, 386, 80), (9, 93, 172), (9, 96, 173), (9, 114, 159), (9, 118, 160), (9, 131, 157), (9, 135, 161), (9, 138, 158), (9, 163, 171), (9, 184, 163), (9, 190, 165), (9, 194, 176), (9, 197, 177), (9, 200, 153), (9, 204, 168), (9, 208, 167), (9, 211, 162), (9, 214, 174), (9, 217, 175), (9, 220, 164), (9, 223, 178), (9, 226, 166), (9, 229, 169), (9, 236, 183), (9, 239, 180), (9, 242, 186), (9, 245, 181), (9, 248, 182), (9, 266, 184), (9, 271, 185), (9, 274, 189), (9, 278, 188), (9, 292, 191), (9, 296, 194), (9, 299, 192), (9, 302, 193), (9, 305, 197), (9, 317, 196), (9, 320, 210), (9, 324, 198), (9, 327, 190), (9, 330, 199), (9, 334, 200), (9, 337, 201), (9, 340, 202), (9, 344, 206), (9, 347, 205), (9, 350, 203), (9, 353, 207), (9, 356, 208), (9, 359, 209), (9, 362, 154), (9, 365, 213), (9, 368, 214), (9, 371, 216), (9, 374, 217), (9, 377, 204), (9, 380, 218), (9, 383, 223), (9, 386, 224), (9, 389, 226), (9, 392, 227), (9, 395, 229), (9, 398, 235), (9, 401, 236), (9, 404, 237), (9, 407, 238), (9, 410, 243), (9, 413, 244), (9, 416, 247), (9, 419, 246), (9, 422, 249), (9, 428, 251), (9, 431, 253), (9, 434, 254), (9, 441, 258), (9, 444, 260), (9, 447, 259), (9, 450, 263), (9, 454, 264), (11, 7, 104), (11, 15, 105), (11, 18, 106), (11, 21, 107), (11, 24, 110), (11, 27, 111), (11, 33, 112), (11, 36, 113), (11, 39, 114), (11, 43, 115), (11, 46, 116), (11, 50, 117), (11, 54, 118), (11, 57, 119), (11, 60, 120), (11, 63, 121), (11, 67, 122), (11, 70, 123), (11, 73, 124), (11, 76, 125), (11, 79, 126), (11, 82, 127), (11, 85, 129), (11, 89, 131), (11, 92, 133), (11, 95, 134), (11, 98, 135), (11, 101, 136), (11, 104, 137), (11, 108, 102), (11, 111, 155), (11, 112, 103), (11, 116, 156), (11, 117, 269), (11, 122, 179), (11, 123, 152), (11, 127, 270), (11, 129, 187), (11, 130, 271), (11, 132, 195), (11, 133, 272), (11, 135, 211), (11, 136, 108), (11, 139, 170), (11, 140, 109), (11, 143, 212), (11, 144, 273), (11, 146, 215), (11, 147, 274), (11, 150, 219), (11, 151, 275), (11, 153, 220), (11, 154, 276), (11, 156, 221), (11, 157, 277), (11, 160, 222), (11, 161, 278), (11, 163, 225), (11, 164, 279), (11, 167, 228), (11, 168, 280), (11, 171, 230), (11, 172, 281), (11, 174, 231), (11, 175, 282), (11, 177, 232), (11, 178, 283), (11, 180, 233), (11, 181, 284), (11, 183, 239), (11, 184, 285), (11, 186, 240), (11, 187, 286), (11, 189, 241), (11, 190, 287), (11, 192, 242), (11, 193, 288), (11, 195, 245), (11, 196, 289), (11, 198, 248), (11, 199, 290), (11, 201, 250), (11, 202, 291), (11, 204, 252), (11, 205, 292), (11, 207, 255), (11, 208, 293), (11, 210, 256), (11, 211, 294), (11, 213, 257), (11, 214, 295), (11, 216, 234), (11, 217, 296), (11, 219, 261), (11, 220, 297), (11, 223, 262), (11, 224, 139), (11, 227, 265), (11, 228, 140), (11, 231, 266), (11, 232, 141), (11, 235, 267), (11, 236, 142), (11, 239, 268)]
def nestT : List (Nat × Nat × Nat) := [(8, 9, 78), (8, 18, 67), (8, 25, 46), (8, 35, 40), (8, 42, 93), (8, 49, 17), (8, 69, 0)]
def callP : List Nat := [961, 962, 972, 966, 967, 971, 1228, 1225, 1240, 1241, 1245, 1160, 1164, 1189, 1190, 1178, 1210, 1213, 637, 641, 738, 646, 701, 710, 733, 737, 705, 714, 1024, 758, 781, 821, 820, 785, 795, 789, 793, 794, 796, 801, 803, 804, 809, 800, 939, 942, 943, 1047, 1048, 515, 503, 431, 1296, 1297, 923, 935, 891, 895, 915, 919, 927, 931, 946, 1321, 1326, 1327, 833, 837, 865, 838, 839, 864, 844, 845, 849, 850, 859, 863, 875, 879, 883, 887, 899, 903, 907, 911, 629, 722, 746, 742, 725, 650, 718, 730, 731, 1089, 1094, 1095, 1099, 1103, 1104, 1105, 1109, 1121, 374, 424, 487, 544, 633, 750, 754, 762, 766, 777, 829, 866, 870, 957, 499, 554, 980, 981, 985, 996, 1020, 1025, 1036, 1040, 1041, 1042, 1043, 1056, 551, 1067, 1075, 1085, 1090, 1117, 1153, 1157, 1161, 1175, 1186, 1191, 1197, 1207, 1221, 1236, 1253, 1263, 1274, 548, 1292, 1298, 1313, 1329, 1340, 1317, 1328, 511, 524, 1000, 625, 1351, 1355, 1543, 1551, 1535, 1593, 1565, 1359, 1558, 1589, 1585, 1581, 1527, 1531, 1539, 1547, 1554, 1569, 1573, 1577, 1596, 1600, 1612, 1624, 1616, 1620, 1608, 1629, 1634, 1730, 1726, 1664, 1649, 1653, 1660, 1668, 1672, 1676, 1708, 1722, 1704, 1711, 1715, 1718, 1684, 1688, 1700, 1680, 1692, 1696, 1745, 1748, 1752, 1760, 1768, 1772, 1780, 1792, 1796, 1808, 1804, 1816, 1844, 1848, 1840, 1860, 1876, 1872, 1884, 1888, 1896, 1904, 1915, 1911, 1938, 1931, 1934, 1955, 1951, 540, 773, 825, 953, 976, 992, 1032, 1052, 1063, 1071, 1081, 1113, 1128, 1135, 1142, 1149, 1171, 1182, 1203, 1217, 1232, 1249, 1259, 1270, 1281, 1288, 1302, 1309, 1336, 133, 1347, 483, 1515, 536, 1523, 1341, 770, 1604, 822, 1645, 950, 1733, 491, 1519, 495, 1737, 973, 1741, 988, 1756, 1029, 1764, 1049, 1776, 1060, 1784, 1068, 1788, 1078, 1800, 1110, 1812, 1125, 1820, 1132, 1824, 1139, 1828, 1146, 1836, 1168, 1852, 1179, 1856, 1200, 1864, 1214, 1868, 1229, 1880, 1246, 1892, 1256, 1899, 1267, 1907, 1278, 1919, 1285, 1923, 1299, 1832, 1306, 1927, 1333, 1943, 507, 1947, 520, 1959, 528, 1963, 532, 1967]
noncomputable def yN (j : Nat) : MethodName := (aInf.getD j (objectInit, ⟨#[]⟩, 0, none, 0, false, [])).1
noncomputable def inf (j : Nat) : aI := aInf.getD j (objectInit, ⟨#[]⟩, 0, none, 0, false, [])
noncomputable def callC (t : Nat × Nat × Nat) : Cond := .methodLink (ownN t.1) t.2.1 (yN t.2.2)
def codeJ : List Nat := [0, 1, 2, 3, 4, 5, 6, 7, 8, 9, 10, 11, 12, 13, 14, 15, 16, 17, 18, 19, 20, 21, 22, 23, 24, 25, 26, 27, 28, 29, 30, 31, 32, 33, 34, 35, 36, 37, 38, 39, 40, 41, 42, 43, 44, 45, 46, 47, 48, 49, 50, 51, 52, 53, 54, 55, 56, 57, 58, 59, 60, 61, 62, 63, 64, 65, 66, 67, 68, 69, 70, 71, 72, 73, 74, 75, 76, 77, 78, 79, 80, 81, 82, 83, 84, 85, 86, 87, 88, 89, 90, 91, 92, 93, 94, 95, 96, 97, 98, 99, 100, 101, 102, 103, 104, 105, 106, 107, 108, 109, 110, 111, 112, 113, 114, 115, 116, 117, 118, 119, 120, 121, 122, 123, 124, 125, 126, 127, 128, 129, 130, 131, 132, 133, 134, 135, 136, 137, 138, 139, 140, 141, 142, 143, 144, 145, 146, 147, 148, 149, 150, 151, 152, 153, 154, 155, 156, 157, 158, 159, 160, 161, 162, 163, 164, 165, 166, 167, 168, 169, 170, 171, 172, 173, 174, 175, 176, 177, 178, 179, 180, 181, 182, 183, 184, 185, 186, 187, 188, 189, 190, 191, 192, 193, 194, 195, 196, 197, 198, 199, 200, 201, 202, 203, 204, 205, 206, 207, 208, 209, 210, 211, 212, 213, 214, 215, 216, 217, 218, 219, 220, 221, 222, 223, 224, 225, 226, 227, 228, 229, 230, 231, 232, 233, 234, 235, 236, 237, 238, 239, 240, 241, 242, 243, 244, 245, 246, 247, 248, 249, 250, 251, 252, 253, 254, 255, 256, 257, 258, 259, 260, 261, 262, 263, 264, 265, 266, 267, 268, 269, 270, 271, 272, 273, 274, 275, 276, 277, 278, 279, 280, 281, 282, 283, 284, 285, 286, 287, 288, 289, 290, 291, 292, 293, 294, 295, 296, 297, 298, 299, 300, 301]
def cdW (i : aI) : Cond := match i.2.2.2.2.2.2 with
  | [] => .code i.1 i.2.1 i.2.2.1 i.2.2.2.1
  | h :: hs => .codeWith i.1 i.2.1 i.2.2.1 i.2.2.2.1 (h :: hs)
def kdP : List Nat := [399, 763, 958, 964, 969, 1226, 1222, 1237, 1243, 986, 1158, 1162, 1187, 1198, 1176, 1208, 1211, 319, 634, 643, 703, 712, 735, 892, 896, 1165, 1021, 375, 755, 778, 760, 783, 787, 791, 798, 806, 810, 936, 940, 1044, 267, 767, 867, 500, 512, 525, 214, 425, 516, 504, 1293, 924, 920, 982, 1026, 928, 1330, 932, 888, 900, 904, 908, 912, 916, 948, 1318, 1323, 181, 830, 835, 841, 847, 861, 852, 871, 881, 877, 885, 142, 488, 626, 631, 638, 747, 719, 723, 651, 743, 739, 647, 715, 726, 706, 293, 1076, 1086, 1091, 1097, 1101, 1107, 1118, 1123, 134, 484, 541, 774, 826, 954, 492, 496, 977, 993, 1033, 1053, 1064, 1072, 1082, 1114, 1129, 1136, 1143, 1150, 1172, 1183, 1204, 1218, 1233, 1250, 1254, 1260, 1264, 1271, 1276, 1282, 1289, 1303, 1310, 1337, 1315, 508, 521, 529, 533, 552, 556, 1155, 1002, 998, 1038, 1058, 546, 752, 1342, 1529, 1746, 1348, 1516, 1537, 1567, 1545, 1552, 1594, 1549, 1559, 1575, 1591, 1598, 1541, 1533, 1602, 1520, 1361, 1353, 1357, 1555, 1571, 1587, 1583, 1579, 1524, 1626, 1622, 1610, 1614, 1631, 1636, 1618, 1605, 1728, 1731, 1724, 1666, 1654, 1662, 1651, 1646, 1674, 1670, 1709, 1706, 1713, 1716, 1720, 1702, 1774, 1690, 1686, 1682, 1694, 1698, 1678, 1734, 1738, 1750, 1754, 1742, 1762, 1770, 1782, 1757, 1765, 1777, 1785, 1794, 1798, 1789, 1810, 1806, 1801, 1818, 1813, 1821, 1825, 1829, 1833, 1846, 1850, 1842, 1862, 1837, 1853, 1857, 1865, 1878, 1874, 1869, 1890, 1886, 1881, 1897, 1893, 1905, 1900, 1917, 1913, 1908, 1920, 1924, 1940, 1936, 1932, 1928, 1944, 1957, 1953, 1948, 1960, 1964, 1968, 537, 771, 823, 951, 974, 989, 1030, 1050, 1061, 1069, 1079, 1111, 1126, 1133, 1140, 1147, 1169, 1180, 1201, 1215, 1230, 1247, 1257, 1268, 1279, 1286, 1300, 1307, 1334, 1192, 944, 549, 432]
def kdW (i : aI) : Cond := if i.2.2.2.2.2.1 = true then .static i.1 else .instanceMethod i.1
def selJ : List Nat := [1, 2, 3, 4, 6, 7, 8, 18, 19, 20, 21, 22, 23, 24, 25, 26, 28, 29, 30, 31, 32, 33, 34, 35, 37, 39, 41, 42, 43, 44, 45, 47, 48, 49, 50, 51, 52, 53, 54, 55, 56, 57, 58, 59, 60, 61, 62, 63, 64, 65, 66, 68, 69, 70, 71, 72, 73, 74, 75, 76, 77, 79, 80, 81, 82, 83, 84, 87, 88, 89, 90, 91, 92, 95, 96, 97, 98, 99, 100, 101, 103, 104, 105, 106, 107, 108, 109, 110, 111, 112, 113, 114, 115, 116, 117, 118, 119, 120, 121, 122, 123, 124, 125, 126, 127, 129, 131, 132, 133, 134, 135, 136, 137, 138, 139, 140, 141, 142, 144, 145, 146, 147, 148, 149, 150, 151, 152, 153, 156, 157, 158, 159, 162, 164, 165, 166, 167, 168, 169, 170, 171, 172, 173, 175, 176, 177, 178, 179, 180, 181, 182, 183, 184, 185, 186, 187, 188, 190, 191, 193, 194, 195, 196, 197, 199, 200, 202, 203, 204, 205, 206, 207, 208, 209, 210, 211, 212, 213, 214, 215, 216, 217, 218, 219, 220, 221, 222, 223, 224, 225, 226, 227, 228, 229, 230, 231, 232, 233, 234, 235, 236, 237, 238, 239, 240, 241, 242, 243, 244, 245, 246, 247, 248, 250, 252, 253, 254, 255, 256, 257, 258, 259, 261, 262, 263, 264, 265, 266, 267, 268]
def selP : List Nat := [764, 959, 24, 25, 1223, 1238, 35, 635, 4, 5, 6, 7, 893, 897, 1166, 1022, 756, 779, 9, 10, 11, 12, 13, 14, 937, 1045, 768, 868, 501, 513, 526, 426, 517, 505, 1294, 925, 921, 983, 1027, 929, 1331, 933, 889, 901, 905, 909, 913, 917, 23, 1319, 38, 831, 15, 16, 17, 19, 18, 872, 21, 20, 22, 489, 627, 3, 639, 748, 720, 744, 740, 648, 716, 727, 707, 1087, 1092, 30, 31, 32, 1119, 33, 485, 542, 775, 827, 955, 493, 497, 978, 994, 1034, 1054, 1065, 1073, 1083, 1115, 1130, 1137, 1144, 1151, 1173, 1184, 1205, 1219, 1234, 1251, 1261, 1272, 36, 1283, 1290, 1304, 1311, 1338, 37, 509, 522, 530, 534, 1, 34, 27, 26, 28, 29, 0, 8, 1343, 42, 1517, 44, 48, 46, 47, 50, 54, 55, 45, 43, 56, 1521, 41, 39, 40, 49, 53, 52, 51, 1525, 61, 60, 57, 58, 62, 63, 59, 1606, 80, 79, 66, 65, 64, 1647, 68, 67, 76, 77, 78, 75, 85, 72, 71, 70, 73, 74, 69, 1735, 1739, 81, 82, 1743, 83, 84, 86, 1758, 1766, 1778, 1786, 87, 88, 1790, 90, 89, 1802, 91, 1814, 1822, 1826, 1830, 1834, 93, 94, 92, 95, 1838, 1854, 1858, 1866, 97, 96, 1870, 99, 98, 1882, 1894, 1901, 101, 100, 1909, 1921, 1925, 103, 102, 1929, 1945, 105, 104, 1949, 1961, 1965, 1969]
def iniP : List Nat := [115, 113, 114, 111, 110, 109, 108, 112, 107, 118, 128, 106, 130, 119, 117]
def newT : List (Nat × Nat × Nat) := [(8, 7, 6), (8, 16, 5), (8, 23, 4), (8, 33, 3), (8, 40, 7), (8, 47, 1), (8, 57, 2), (8, 67, 0), (11, 8, 8), (11, 109, 9)]
def newP : List Nat := [139, 178, 211, 264, 290, 316, 372, 396, 131, 1345]
def insP : List Nat := [397, 317, 373, 265, 212, 179, 140, 291, 132, 1346]
def conT : List (Nat × Nat × Nat) := [(4, 136, 1103515245), (5, 106, 100000), (6, 72, 100000), (9, 440, 1103515245), (12, 265, 1431655765), (12, 266, 858993459), (12, 267, 252645135)]
def conP : List Nat := [1325, 874, 729, 1942, 1194, 1195, 1196]
def conLT : List (Nat × Nat × Nat) := [(8, 326, 2), (9, 426, 16)]
def conLP : List Nat := [1266, 1903]
def objT : List (Nat × Nat) := [(0, 3), (1, 3), (2, 3), (3, 3), (4, 3), (5, 3), (6, 3), (7, 3), (8, 1), (9, 11)]
def objP : List Nat := [401, 321, 377, 269, 216, 183, 144, 295, 136, 1350]
def acpT : List (Nat × Nat) := [(3, 39), (4, 51)]
def acpP : List Nat := [519, 428]
def layP0 : List Nat := [411, 413, 415, 417, 419, 421]
def layP1 : List Nat := [353, 355, 357, 359, 361, 363, 365, 367, 369]
def layP2 : List Nat := [385, 387, 389, 391, 393]
def layP3 : List Nat := [279, 281, 283, 285, 287]
def layP4 : List Nat := [241, 243, 245, 247, 249, 251, 253, 255, 257, 259, 261]
def layP5 : List Nat := [194, 196, 198, 200, 202, 204, 206, 208]
def layP6 : List Nat := [160, 162, 164, 166, 168, 170, 172, 174]
def layP7 : List Nat := [305, 307, 309, 311, 313]
def layP8 : List Nat := [450, 452, 454, 456, 458, 460, 462, 464, 466, 468, 470, 472, 474, 476, 478, 480]
def layP9 : List Nat := [1413, 1415, 1417, 1419, 1421, 1423, 1425, 1427, 1429, 1431, 1433, 1435, 1437, 1439, 1441, 1443, 1445, 1447, 1449, 1451, 1453, 1455, 1457, 1459, 1461, 1463, 1465, 1467, 1469, 1471, 1473, 1475, 1477, 1479, 1481, 1483, 1485, 1487, 1489, 1491, 1493, 1495, 1497, 1499, 1501, 1503, 1505, 1507, 1509, 1511]
def strT : List (Nat × Nat × Nat) := [(1, 54, 0), (1, 63, 1), (1, 68, 2), (2, 71, 3), (2, 80, 4), (2, 89, 5), (2, 91, 6), (2, 93, 7), (2, 95, 8), (2, 97, 9), (2, 99, 10), (2, 101, 11), (2, 103, 1), (5, 61, 12), (5, 79, 13), (5, 92, 7), (5, 94, 14), (5, 96, 9), (5, 98, 15), (8, 373, 16), (8, 380, 17), (9, 182, 0), (9, 188, 1), (9, 189, 2), (9, 251, 5), (9, 252, 6), (9, 254, 7), (9, 256, 8), (9, 258, 9), (9, 260, 10), (9, 262, 11), (9, 264, 3), (9, 269, 4), (9, 284, 12), (9, 286, 13), (9, 288, 14), (9, 290, 15)]
def pick (ps : List Nat) : List Cond := ps.filterMap (fun i => lw_tbl[i]?)
theorem pick_in {ws : List Cond} {ps : List Nat} (h : ws = pick ps) : ∀ w ∈ ws, w ∈ lw_tbl := by
  intro w hw
  rw [h] at hw
  obtain ⟨i, -, hi⟩ := List.mem_filterMap.mp hw
  exact List.mem_of_getElem? hi
set_option maxRecDepth 100000 in
set_option maxHeartbeats 4000000 in
theorem fld_in : ∀ w ∈ fldT.map fldC, w ∈ lw_tbl := pick_in (ps := fldP) (by decide +kernel)
set_option maxRecDepth 100000 in
set_option maxHeartbeats 4000000 in
theorem call_in : ∀ w ∈ callT.map callC, w ∈ lw_tbl := pick_in (ps := callP) (by decide +kernel)
set_option maxRecDepth 100000 in
set_option maxHeartbeats 4000000 in
theorem kd_in : ∀ w ∈ codeJ.map (fun j => kdW (inf j)), w ∈ lw_tbl := pick_in (ps := kdP) (by decide +kernel)
set_option maxRecDepth 100000 in
set_option maxHeartbeats 4000000 in
theorem sel_in : ∀ w ∈ selJ.map (fun j => Cond.selects (yN j).cls (yN j) (yN j)), w ∈ lw_tbl := pick_in (ps := selP) (by decide +kernel)
set_option maxRecDepth 100000 in
set_option maxHeartbeats 4000000 in
theorem ini_in : ∀ w ∈ ownL.map (fun c => Cond.initialized c), w ∈ lw_tbl := pick_in (ps := iniP) (by decide +kernel)
set_option maxRecDepth 100000 in
set_option maxHeartbeats 4000000 in
theorem new_in : ∀ w ∈ newT.map (fun t => Cond.classLink (ownN t.1) t.2.1 (cC t.2.2)), w ∈ lw_tbl := pick_in (ps := newP) (by decide +kernel)
set_option maxRecDepth 100000 in
set_option maxHeartbeats 4000000 in
theorem ins_in : ∀ w ∈ (List.range 10).map (fun c => Cond.instantiable (cC c) (cN c)), w ∈ lw_tbl := pick_in (ps := insP) (by decide +kernel)
set_option maxRecDepth 100000 in
set_option maxHeartbeats 4000000 in
theorem con_in : ∀ w ∈ conT.map (fun t => Cond.constant (ownN t.1) t.2.1 (nI t.2.2)), w ∈ lw_tbl := pick_in (ps := conP) (by decide +kernel)
set_option maxRecDepth 100000 in
set_option maxHeartbeats 4000000 in
theorem conL_in : ∀ w ∈ conLT.map (fun t => Cond.constantLong (ownN t.1) t.2.1 (lN t.2.2)), w ∈ lw_tbl := pick_in (ps := conLP) (by decide +kernel)
set_option maxRecDepth 100000 in
set_option maxHeartbeats 4000000 in
theorem obj_in : ∀ w ∈ objT.map (fun t => Cond.methodLink (ownN t.1) t.2 objectInit), w ∈ lw_tbl := pick_in (ps := objP) (by decide +kernel)
set_option maxRecDepth 100000 in
set_option maxHeartbeats 4000000 in
theorem acp_in : ∀ w ∈ acpT.map (fun t => Cond.methodLink (ownN t.1) t.2 arraycopyName), w ∈ lw_tbl := pick_in (ps := acpP) (by decide +kernel)
set_option maxRecDepth 100000 in
set_option maxHeartbeats 4000000 in
theorem lay_in0 : ∀ w ∈ u_ws (cC 0) (cT 0) (cN 0), w ∈ lw_tbl := pick_in (ps := layP0) (by decide +kernel)
set_option maxRecDepth 100000 in
set_option maxHeartbeats 4000000 in
theorem lay_in1 : ∀ w ∈ u_ws (cC 1) (cT 1) (cN 1), w ∈ lw_tbl := pick_in (ps := layP1) (by decide +kernel)
set_option maxRecDepth 100000 in
set_option maxHeartbeats 4000000 in
theorem lay_in2 : ∀ w ∈ u_ws (cC 2) (cT 2) (cN 2), w ∈ lw_tbl := pick_in (ps := layP2) (by decide +kernel)
set_option maxRecDepth 100000 in
set_option maxHeartbeats 4000000 in
theorem lay_in3 : ∀ w ∈ u_ws (cC 3) (cT 3) (cN 3), w ∈ lw_tbl := pick_in (ps := layP3) (by decide +kernel)
set_option maxRecDepth 100000 in
set_option maxHeartbeats 4000000 in
theorem lay_in4 : ∀ w ∈ u_ws (cC 4) (cT 4) (cN 4), w ∈ lw_tbl := pick_in (ps := layP4) (by decide +kernel)
set_option maxRecDepth 100000 in
set_option maxHeartbeats 4000000 in
theorem lay_in5 : ∀ w ∈ u_ws (cC 5) (cT 5) (cN 5), w ∈ lw_tbl := pick_in (ps := layP5) (by decide +kernel)
set_option maxRecDepth 100000 in
set_option maxHeartbeats 4000000 in
theorem lay_in6 : ∀ w ∈ u_ws (cC 6) (cT 6) (cN 6), w ∈ lw_tbl := pick_in (ps := layP6) (by decide +kernel)
set_option maxRecDepth 100000 in
set_option maxHeartbeats 4000000 in
theorem lay_in7 : ∀ w ∈ u_ws (cC 7) (cT 7) (cN 7), w ∈ lw_tbl := pick_in (ps := layP7) (by decide +kernel)
set_option maxRecDepth 100000 in
set_option maxHeartbeats 4000000 in
theorem lay_in8 : ∀ w ∈ u_ws (cC 8) (cT 8) (cN 8), w ∈ lw_tbl := pick_in (ps := layP8) (by decide +kernel)
set_option maxRecDepth 100000 in
set_option maxHeartbeats 4000000 in
theorem lay_in9 : ∀ w ∈ u_ws (cC 9) (cT 9) (cN 9), w ∈ lw_tbl := pick_in (ps := layP9) (by decide +kernel)
set_option maxRecDepth 100000 in
set_option maxHeartbeats 4000000 in
theorem objW_in : ∀ w ∈ ([Cond.instanceMethod objectInit, Cond.code objectInit ⟨#[0xb1]⟩ 1 none] : List Cond), w ∈ lw_tbl := pick_in (ps := [137, 138]) (by decide +kernel)
set_option maxRecDepth 100000 in
set_option maxHeartbeats 4000000 in
theorem acwW_in : ∀ w ∈ ([Cond.native arraycopyName, Cond.static arraycopyName, Cond.initialized "java/lang/System", Cond.arrayClass .int, Cond.arrayClass .long] : List Cond), w ∈ lw_tbl := pick_in (ps := [430, 429, 116, 177, 1514]) (by decide +kernel)
theorem tables_1_1_in : ∀ w ∈ tables_1_1, w ∈ lw_tbl := fun w h => List.mem_append_right _ (List.mem_append_left _ h)
theorem tables_1_2_in : ∀ w ∈ tables_1_2, w ∈ lw_tbl := fun w h => List.mem_append_right _ (List.mem_append_right _ (List.mem_append_left _ h))
theorem tables_1_3_in : ∀ w ∈ tables_1_3, w ∈ lw_tbl := fun w h => List.mem_append_right _ (List.mem_append_right _ (List.mem_append_right _ (List.mem_append_left _ h)))
theorem tables_1_4_in : ∀ w ∈ tables_1_4, w ∈ lw_tbl := fun w h => List.mem_append_right _ (List.mem_append_right _ (List.mem_append_right _ (List.mem_append_right _ (List.mem_append_left _ h))))
theorem tables_1_5_in : ∀ w ∈ tables_1_5, w ∈ lw_tbl := fun w h => List.mem_append_right _ (List.mem_append_right _ (List.mem_append_right _ (List.mem_append_right _ (List.mem_append_right _ (List.mem_append_left _ h)))))
theorem tables_1_6_in : ∀ w ∈ tables_1_6, w ∈ lw_tbl := fun w h => List.mem_append_right _ (List.mem_append_right _ (List.mem_append_right _ (List.mem_append_right _ (List.mem_append_right _ (List.mem_append_right _ (List.mem_append_left _ h))))))
theorem tables_1_7_in : ∀ w ∈ tables_1_7, w ∈ lw_tbl := fun w h => List.mem_append_right _ (List.mem_append_right _ (List.mem_append_right _ (List.mem_append_right _ (List.mem_append_right _ (List.mem_append_right _ (List.mem_append_right _ (List.mem_append_left _ h)))))))
theorem tables_1_8_in : ∀ w ∈ tables_1_8, w ∈ lw_tbl := fun w h => List.mem_append_right _ (List.mem_append_right _ (List.mem_append_right _ (List.mem_append_right _ (List.mem_append_right _ (List.mem_append_right _ (List.mem_append_right _ (List.mem_append_right _ (h))))))))
set_option maxRecDepth 100000 in
theorem cw_X0_init : Cond.code yX0_init cX0_init 1 none ∈ lw_tbl := tables_1_2_in _ (List.mem_of_getElem? (i := 54) rfl)
set_option maxRecDepth 100000 in
theorem cw_X0_begin : Cond.code yX0_begin cX0_begin 1 none ∈ lw_tbl := tables_1_3_in _ (List.mem_of_getElem? (i := 179) rfl)
set_option maxRecDepth 100000 in
theorem cw_X0_readFrom : Cond.code yX0_readFrom cX0_readFrom 3 (some .boolean) ∈ lw_tbl := tables_1_4_in _ (List.mem_of_getElem? (i := 134) rfl)
set_option maxRecDepth 100000 in
theorem cw_X0_readLine : Cond.code yX0_readLine cX0_readLine 3 (some .boolean) ∈ lw_tbl := tables_1_4_in _ (List.mem_of_getElem? (i := 139) rfl)
set_option maxRecDepth 100000 in
theorem cw_X0_isTold : Cond.code yX0_isTold cX0_isTold 3 (some .boolean) ∈ lw_tbl := tables_1_4_in _ (List.mem_of_getElem? (i := 144) rfl)
set_option maxRecDepth 100000 in
theorem cw_X0_dayLater : Cond.code yX0_dayLater cX0_dayLater 8 (some .int) ∈ lw_tbl := tables_1_5_in _ (List.mem_of_getElem? (i := 161) rfl)
set_option maxRecDepth 100000 in
theorem cw_X0_fitting : Cond.code yX0_fitting cX0_fitting 7 (some .int) ∈ lw_tbl := tables_1_5_in _ (List.mem_of_getElem? (i := 158) rfl)
set_option maxRecDepth 100000 in
theorem cw_X0_lookFor : Cond.code yX0_lookFor cX0_lookFor 6 none ∈ lw_tbl := tables_1_5_in _ (List.mem_of_getElem? (i := 173) rfl)
set_option maxRecDepth 100000 in
theorem cw_X0_mostAlike : Cond.code yX0_mostAlike cX0_mostAlike 7 (some .int) ∈ lw_tbl := tables_1_5_in _ (List.mem_of_getElem? (i := 178) rfl)
set_option maxRecDepth 100000 in
theorem cw_X1_resting : Cond.code yX1_resting cX1_resting 5 (some .int) ∈ lw_tbl := tables_1_4_in _ (List.mem_of_getElem? (i := 161) rfl)
set_option maxRecDepth 100000 in
theorem cw_X1_going : Cond.code yX1_going cX1_going 3 (some .int) ∈ lw_tbl := tables_1_5_in _ (List.mem_of_getElem? (i := 93) rfl)
set_option maxRecDepth 100000 in
theorem cw_X1_joins : Cond.code yX1_joins cX1_joins 7 (some .boolean) ∈ lw_tbl := tables_1_5_in _ (List.mem_of_getElem? (i := 97) rfl)
set_option maxRecDepth 100000 in
theorem cw_X1_joinedDays : Cond.code yX1_joinedDays cX1_joinedDays 4 (some .int) ∈ lw_tbl := tables_1_5_in _ (List.mem_of_getElem? (i := 122) rfl)
set_option maxRecDepth 100000 in
theorem cw_X1_daysIfChanged : Cond.code yX1_daysIfChanged cX1_daysIfChanged 7 (some .int) ∈ lw_tbl := tables_1_5_in _ (List.mem_of_getElem? (i := 133) rfl)
set_option maxRecDepth 100000 in
theorem cw_X1_fewestCut : Cond.code yX1_fewestCut cX1_fewestCut 9 (some .int) ∈ lw_tbl := tables_1_5_in _ (List.mem_of_getElem? (i := 111) rfl)
set_option maxRecDepth 100000 in
theorem cw_X1_mostApart : Cond.code yX1_mostApart cX1_mostApart 2 (some .int) ∈ lw_tbl := tables_1_5_in _ (List.mem_of_getElem? (i := 143) rfl)
set_option maxRecDepth 100000 in
theorem cw_X1_mostApartFrom : Cond.code yX1_mostApartFrom cX1_mostApartFrom 6 (some .int) ∈ lw_tbl := tables_1_5_in _ (List.mem_of_getElem? (i := 146) rfl)
set_option maxRecDepth 100000 in
theorem cw_X2_init : Cond.code yX2_init cX2_init 1 none ∈ lw_tbl := tables_1_1_in _ (List.mem_of_getElem? (i := 214) rfl)
set_option maxRecDepth 100000 in
theorem cw_X2_readFrom : Cond.code yX2_readFrom cX2_readFrom 3 (some .boolean) ∈ lw_tbl := tables_1_3_in _ (List.mem_of_getElem? (i := 50) rfl)
set_option maxRecDepth 100000 in
theorem cw_X2_readClause : Cond.code yX2_readClause cX2_readClause 2 (some .boolean) ∈ lw_tbl := tables_1_3_in _ (List.mem_of_getElem? (i := 58) rfl)
set_option maxRecDepth 100000 in
theorem cw_X2_addTown : Cond.code yX2_addTown cX2_addTown 2 (some .boolean) ∈ lw_tbl := tables_1_3_in _ (List.mem_of_getElem? (i := 118) rfl)
set_option maxRecDepth 100000 in
theorem cw_X2_addRoad : Cond.code yX2_addRoad cX2_addRoad 2 (some .boolean) ∈ lw_tbl := tables_1_3_in _ (List.mem_of_getElem? (i := 127) rfl)
set_option maxRecDepth 100000 in
theorem cw_X2_addCarter : Cond.code yX2_addCarter cX2_addCarter 2 (some .boolean) ∈ lw_tbl := tables_1_3_in _ (List.mem_of_getElem? (i := 150) rfl)
set_option maxRecDepth 100000 in
theorem cw_X2_touches : Cond.code yX2_touches cX2_touches 3 (some .boolean) ∈ lw_tbl := tables_1_4_in _ (List.mem_of_getElem? (i := 68) rfl)
set_option maxRecDepth 100000 in
theorem cw_X2_acrossFrom : Cond.code yX2_acrossFrom cX2_acrossFrom 3 (some .int) ∈ lw_tbl := tables_1_4_in _ (List.mem_of_getElem? (i := 72) rfl)
set_option maxRecDepth 100000 in
theorem cw_X2_endsAsBits : Cond.code yX2_endsAsBits cX2_endsAsBits 2 (some .int) ∈ lw_tbl := tables_1_5_in _ (List.mem_of_getElem? (i := 101) rfl)
set_option maxRecDepth 100000 in
theorem cw_X2_roadsFrom : Cond.code yX2_roadsFrom cX2_roadsFrom 4 (some .int) ∈ lw_tbl := tables_1_4_in _ (List.mem_of_getElem? (i := 197) rfl)
set_option maxRecDepth 100000 in
theorem cw_X3_init : Cond.code yX3_init cX3_init 1 none ∈ lw_tbl := tables_1_2_in _ (List.mem_of_getElem? (i := 30) rfl)
set_option maxRecDepth 100000 in
theorem cw_X3_begin : Cond.code yX3_begin cX3_begin 1 none ∈ lw_tbl := tables_1_3_in _ (List.mem_of_getElem? (i := 171) rfl)
set_option maxRecDepth 100000 in
theorem cw_X3_readFrom : Cond.code yX3_readFrom cX3_readFrom 2 (some .boolean) ∈ lw_tbl := tables_1_3_in _ (List.mem_of_getElem? (i := 194) rfl)
set_option maxRecDepth 100000 in
theorem cw_X3_put : Cond.code yX3_put cX3_put 3 (some .boolean) ∈ lw_tbl := tables_1_3_in _ (List.mem_of_getElem? (i := 175) rfl)
set_option maxRecDepth 100000 in
theorem cw_X3_readSum : Cond.code yX3_readSum cX3_readSum 5 (some .boolean) ∈ lw_tbl := tables_1_3_in _ (List.mem_of_getElem? (i := 198) rfl)
set_option maxRecDepth 100000 in
theorem cw_X3_readProduct : Cond.code yX3_readProduct cX3_readProduct 5 (some .boolean) ∈ lw_tbl := tables_1_3_in _ (List.mem_of_getElem? (i := 202) rfl)
set_option maxRecDepth 100000 in
theorem cw_X3_readUnit : Cond.code yX3_readUnit cX3_readUnit 4 (some .boolean) ∈ lw_tbl := tables_1_3_in _ (List.mem_of_getElem? (i := 206) rfl)
set_option maxRecDepth 100000 in
theorem cw_X3_opens : Cond.code yX3_opens cX3_opens 3 (some .boolean) ∈ lw_tbl := tables_1_3_in _ (List.mem_of_getElem? (i := 213) rfl)
set_option maxRecDepth 100000 in
theorem cw_X3_readTwo : Cond.code yX3_readTwo cX3_readTwo 3 (some .boolean) ∈ lw_tbl := tables_1_3_in _ (List.mem_of_getElem? (i := 221) rfl)
set_option maxRecDepth 100000 in
theorem cw_X3_readGiven : Cond.code yX3_readGiven cX3_readGiven 1 (some .int) ∈ lw_tbl := tables_1_3_in _ (List.mem_of_getElem? (i := 225) rfl)
set_option maxRecDepth 100000 in
theorem cw_X3_pace : Cond.code yX3_pace cX3_pace 3 (some .int) ∈ lw_tbl := tables_1_4_in _ (List.mem_of_getElem? (i := 112) rfl)
set_option maxRecDepth 100000 in
theorem cw_X3_outOf : Cond.code yX3_outOf cX3_outOf 3 (some .int) ∈ lw_tbl := tables_1_4_in _ (List.mem_of_getElem? (i := 115) rfl)
set_option maxRecDepth 100000 in
theorem cw_X3_plainPace : Cond.code yX3_plainPace cX3_plainPace 3 (some .int) ∈ lw_tbl := tables_1_4_in _ (List.mem_of_getElem? (i := 220) rfl)
set_option maxRecDepth 100000 in
theorem cw_X4_init : Cond.code yX4_init cX4_init 1 none ∈ lw_tbl := tables_1_1_in _ (List.mem_of_getElem? (i := 162) rfl)
set_option maxRecDepth 100000 in
theorem cw_X4_begin : Cond.code yX4_begin cX4_begin 1 none ∈ lw_tbl := tables_1_3_in _ (List.mem_of_getElem? (i := 183) rfl)
set_option maxRecDepth 100000 in
theorem cw_X4_keepWork : Cond.code yX4_keepWork cX4_keepWork 2 none ∈ lw_tbl := tables_1_4_in _ (List.mem_of_getElem? (i := 43) rfl)
set_option maxRecDepth 100000 in
theorem cw_X4_takeWorkBack : Cond.code yX4_takeWorkBack cX4_takeWorkBack 2 none ∈ lw_tbl := tables_1_2_in _ (List.mem_of_getElem? (i := 156) rfl)
set_option maxRecDepth 100000 in
theorem cw_X4_keepImage : Cond.code yX4_keepImage cX4_keepImage 4 none ∈ lw_tbl := tables_1_2_in _ (List.mem_of_getElem? (i := 168) rfl)
set_option maxRecDepth 100000 in
theorem cw_X4_takeImageBack : Cond.code yX4_takeImageBack cX4_takeImageBack 4 none ∈ lw_tbl := tables_1_2_in _ (List.mem_of_getElem? (i := 181) rfl)
set_option maxRecDepth 100000 in
theorem cw_X5_init : Cond.code yX5_init cX5_init 1 none ∈ lw_tbl := tables_1_1_in _ (List.mem_of_getElem? (i := 109) rfl)
set_option maxRecDepth 100000 in
theorem cw_X5_begin : Cond.code yX5_begin cX5_begin 2 none ∈ lw_tbl := tables_1_2_in _ (List.mem_of_getElem? (i := 81) rfl)
set_option maxRecDepth 100000 in
theorem cw_X5_saveIn : Cond.code yX5_saveIn cX5_saveIn 3 none ∈ lw_tbl := tables_1_2_in _ (List.mem_of_getElem? (i := 172) rfl)
set_option maxRecDepth 100000 in
theorem cw_X5_takeFrom : Cond.code yX5_takeFrom cX5_takeFrom 3 none ∈ lw_tbl := tables_1_2_in _ (List.mem_of_getElem? (i := 160) rfl)
set_option maxRecDepth 100000 in
theorem cw_X5_become : Cond.code yX5_become cX5_become 2 none ∈ lw_tbl := tables_1_5_in _ (List.mem_of_getElem? (i := 229) rfl)
set_option maxRecDepth 100000 in
theorem cw_X5_weekDay : Cond.code yX5_weekDay cX5_weekDay 1 (some .int) ∈ lw_tbl := tables_1_4_in _ (List.mem_of_getElem? (i := 100) rfl)
set_option maxRecDepth 100000 in
theorem cw_X5_rests : Cond.code yX5_rests cX5_rests 2 (some .boolean) ∈ lw_tbl := tables_1_4_in _ (List.mem_of_getElem? (i := 96) rfl)
set_option maxRecDepth 100000 in
theorem cw_X5_travellers : Cond.code yX5_travellers cX5_travellers 4 (some .int) ∈ lw_tbl := tables_1_4_in _ (List.mem_of_getElem? (i := 158) rfl)
set_option maxRecDepth 100000 in
theorem cw_X5_cartersIn : Cond.code yX5_cartersIn cX5_cartersIn 5 (some .int) ∈ lw_tbl := tables_1_4_in _ (List.mem_of_getElem? (i := 202) rfl)
set_option maxRecDepth 100000 in
theorem cw_X5_cartersOn : Cond.code yX5_cartersOn cX5_cartersOn 5 (some .int) ∈ lw_tbl := tables_1_4_in _ (List.mem_of_getElem? (i := 104) rfl)
set_option maxRecDepth 100000 in
theorem cw_X5_tiredTogether : Cond.code yX5_tiredTogether cX5_tiredTogether 4 (some .int) ∈ lw_tbl := tables_1_6_in _ (List.mem_of_getElem? (i := 26) rfl)
set_option maxRecDepth 100000 in
theorem cw_X5_paceNow : Cond.code yX5_paceNow cX5_paceNow 7 (some .int) ∈ lw_tbl := tables_1_4_in _ (List.mem_of_getElem? (i := 108) rfl)
set_option maxRecDepth 100000 in
theorem cw_X5_setOut : Cond.code yX5_setOut cX5_setOut 4 (some .boolean) ∈ lw_tbl := tables_1_4_in _ (List.mem_of_getElem? (i := 64) rfl)
set_option maxRecDepth 100000 in
theorem cw_X5_turnRound : Cond.code yX5_turnRound cX5_turnRound 4 (some .boolean) ∈ lw_tbl := tables_1_4_in _ (List.mem_of_getElem? (i := 76) rfl)
set_option maxRecDepth 100000 in
theorem cw_X5_loadAnew : Cond.code yX5_loadAnew cX5_loadAnew 3 (some .boolean) ∈ lw_tbl := tables_1_4_in _ (List.mem_of_getElem? (i := 80) rfl)
set_option maxRecDepth 100000 in
theorem cw_X5_offAnew : Cond.code yX5_offAnew cX5_offAnew 3 (some .boolean) ∈ lw_tbl := tables_1_4_in _ (List.mem_of_getElem? (i := 84) rfl)
set_option maxRecDepth 100000 in
theorem cw_X5_passHour : Cond.code yX5_passHour cX5_passHour 4 none ∈ lw_tbl := tables_1_4_in _ (List.mem_of_getElem? (i := 88) rfl)
set_option maxRecDepth 100000 in
theorem cw_X5_passOn : Cond.code yX5_passOn cX5_passOn 6 none ∈ lw_tbl := tables_1_4_in _ (List.mem_of_getElem? (i := 92) rfl)
set_option maxRecDepth 100000 in
theorem cw_X5_goOn : Cond.code yX5_goOn cX5_goOn 4 none ∈ lw_tbl := tables_1_4_in _ (List.mem_of_getElem? (i := 123) rfl)
set_option maxRecDepth 100000 in
theorem cw_X5_drawHour : Cond.code yX5_drawHour cX5_drawHour 5 none ∈ lw_tbl := tables_1_6_in _ (List.mem_of_getElem? (i := 14) rfl)
set_option maxRecDepth 100000 in
theorem cw_X5_draw : Cond.code yX5_draw cX5_draw 2 (some .int) ∈ lw_tbl := tables_1_6_in _ (List.mem_of_getElem? (i := 18) rfl)
set_option maxRecDepth 100000 in
theorem cw_X6_init : Cond.code yX6_init cX6_init 1 none ∈ lw_tbl := tables_1_1_in _ (List.mem_of_getElem? (i := 76) rfl)
set_option maxRecDepth 100000 in
theorem cw_X6_readFrom : Cond.code yX6_readFrom cX6_readFrom 3 (some .boolean) ∈ lw_tbl := tables_1_4_in _ (List.mem_of_getElem? (i := 6) rfl)
set_option maxRecDepth 100000 in
theorem cw_X6_readSteps : Cond.code yX6_readSteps cX6_readSteps 5 (some .boolean) ∈ lw_tbl := tables_1_4_in _ (List.mem_of_getElem? (i := 10) rfl)
set_option maxRecDepth 100000 in
theorem cw_X6_readStep : Cond.code yX6_readStep cX6_readStep 4 (some .boolean) ∈ lw_tbl := tables_1_4_in _ (List.mem_of_getElem? (i := 16) rfl)
set_option maxRecDepth 100000 in
theorem cw_X6_readTwo : Cond.code yX6_readTwo cX6_readTwo 6 (some .boolean) ∈ lw_tbl := tables_1_4_in _ (List.mem_of_getElem? (i := 22) rfl)
set_option maxRecDepth 100000 in
theorem cw_X6_readAgain : Cond.code yX6_readAgain cX6_readAgain 5 (some .boolean) ∈ lw_tbl := tables_1_4_in _ (List.mem_of_getElem? (i := 36) rfl)
set_option maxRecDepth 100000 in
theorem cw_X6_put : Cond.code yX6_put cX6_put 4 (some .boolean) ∈ lw_tbl := tables_1_4_in _ (List.mem_of_getElem? (i := 27) rfl)
set_option maxRecDepth 100000 in
theorem cw_X6_run : Cond.code yX6_run cX6_run 7 none ∈ lw_tbl := tables_1_4_in _ (List.mem_of_getElem? (i := 47) rfl)
set_option maxRecDepth 100000 in
theorem cw_X6_behindAgain : Cond.code yX6_behindAgain cX6_behindAgain 3 (some .int) ∈ lw_tbl := tables_1_4_in _ (List.mem_of_getElem? (i := 56) rfl)
set_option maxRecDepth 100000 in
theorem cw_X6_behindTurn : Cond.code yX6_behindTurn cX6_behindTurn 2 (some .int) ∈ lw_tbl := tables_1_4_in _ (List.mem_of_getElem? (i := 52) rfl)
set_option maxRecDepth 100000 in
theorem cw_X6_doStep : Cond.code yX6_doStep cX6_doStep 7 (some .boolean) ∈ lw_tbl := tables_1_4_in _ (List.mem_of_getElem? (i := 60) rfl)
set_option maxRecDepth 100000 in
theorem cw_X7_init : Cond.code yX7_init cX7_init 1 none ∈ lw_tbl := tables_1_1_in _ (List.mem_of_getElem? (i := 37) rfl)
set_option maxRecDepth 100000 in
theorem cw_X7_put : Cond.code yX7_put cX7_put 3 none ∈ lw_tbl := tables_1_2_in _ (List.mem_of_getElem? (i := 144) rfl)
set_option maxRecDepth 100000 in
theorem cw_X7_open : Cond.code yX7_open cX7_open 2 none ∈ lw_tbl := tables_1_3_in _ (List.mem_of_getElem? (i := 42) rfl)
set_option maxRecDepth 100000 in
theorem cw_X7_moveTo : Cond.code yX7_moveTo cX7_moveTo 2 none ∈ lw_tbl := tables_1_3_in _ (List.mem_of_getElem? (i := 46) rfl)
set_option maxRecDepth 100000 in
theorem cw_X7_ends : Cond.code yX7_ends cX7_ends 1 (some .boolean) ∈ lw_tbl := tables_1_3_in _ (List.mem_of_getElem? (i := 54) rfl)
set_option maxRecDepth 100000 in
theorem cw_X7_stands : Cond.code yX7_stands cX7_stands 2 (some .boolean) ∈ lw_tbl := tables_1_3_in _ (List.mem_of_getElem? (i := 163) rfl)
set_option maxRecDepth 100000 in
theorem cw_X7_digitStands : Cond.code yX7_digitStands cX7_digitStands 1 (some .boolean) ∈ lw_tbl := tables_1_3_in _ (List.mem_of_getElem? (i := 135) rfl)
set_option maxRecDepth 100000 in
theorem cw_X7_isDigit : Cond.code yX7_isDigit cX7_isDigit 1 (some .boolean) ∈ lw_tbl := tables_1_3_in _ (List.mem_of_getElem? (i := 138) rfl)
set_option maxRecDepth 100000 in
theorem cw_X7_isLetter : Cond.code yX7_isLetter cX7_isLetter 1 (some .boolean) ∈ lw_tbl := tables_1_3_in _ (List.mem_of_getElem? (i := 66) rfl)
set_option maxRecDepth 100000 in
theorem cw_X7_takes : Cond.code yX7_takes cX7_takes 2 (some .boolean) ∈ lw_tbl := tables_1_3_in _ (List.mem_of_getElem? (i := 159) rfl)
set_option maxRecDepth 100000 in
theorem cw_X7_needs : Cond.code yX7_needs cX7_needs 2 (some .boolean) ∈ lw_tbl := tables_1_3_in _ (List.mem_of_getElem? (i := 155) rfl)
set_option maxRecDepth 100000 in
theorem cw_X7_takesWord : Cond.code yX7_takesWord cX7_takesWord 4 (some .boolean) ∈ lw_tbl := tables_1_3_in _ (List.mem_of_getElem? (i := 63) rfl)
set_option maxRecDepth 100000 in
theorem cw_X7_needsNumber : Cond.code yX7_needsNumber cX7_needsNumber 4 (some .boolean) ∈ lw_tbl := tables_1_3_in _ (List.mem_of_getElem? (i := 131) rfl)
set_option maxRecDepth 100000 in
theorem cw_X7_failHere : Cond.code yX7_failHere cX7_failHere 2 (some .boolean) ∈ lw_tbl := tables_1_3_in _ (List.mem_of_getElem? (i := 142) rfl)
set_option maxRecDepth 100000 in
theorem cw_X7_failAtToken : Cond.code yX7_failAtToken cX7_failAtToken 2 (some .boolean) ∈ lw_tbl := tables_1_3_in _ (List.mem_of_getElem? (i := 122) rfl)
set_option maxRecDepth 100000 in
theorem cw_X8_init : Cond.code yX8_init cX8_init 1 none ∈ lw_tbl := tables_1_1_in _ (List.mem_of_getElem? (i := 188) rfl)
set_option maxRecDepth 100000 in
theorem cw_X8_taken : Cond.code yX8_taken cX8_taken 9 (some .int) ∈ lw_tbl := tables_1_5_in _ (List.mem_of_getElem? (i := 11) rfl)
set_option maxRecDepth 100000 in
theorem cw_X8_measure : Cond.code yX8_measure cX8_measure 4 none ∈ lw_tbl := tables_1_5_in _ (List.mem_of_getElem? (i := 22) rfl)
set_option maxRecDepth 100000 in
theorem cw_X8_search : Cond.code yX8_search cX8_search 8 none ∈ lw_tbl := tables_1_5_in _ (List.mem_of_getElem? (i := 27) rfl)
set_option maxRecDepth 100000 in
theorem cw_X8_nearest : Cond.code yX8_nearest cX8_nearest 6 (some .int) ∈ lw_tbl := tables_1_5_in _ (List.mem_of_getElem? (i := 32) rfl)
set_option maxRecDepth 100000 in
theorem cw_X8_leave : Cond.code yX8_leave cX8_leave 8 none ∈ lw_tbl := tables_1_5_in _ (List.mem_of_getElem? (i := 36) rfl)
set_option maxRecDepth 100000 in
theorem cw_X8_by : Cond.code yX8_by cX8_by 7 (some .int) ∈ lw_tbl := tables_1_5_in _ (List.mem_of_getElem? (i := 42) rfl)
set_option maxRecDepth 100000 in
theorem cw_X8_trace : Cond.code yX8_trace cX8_trace 8 none ∈ lw_tbl := tables_1_5_in _ (List.mem_of_getElem? (i := 54) rfl)
set_option maxRecDepth 100000 in
theorem cw_X8_lastRoad : Cond.code yX8_lastRoad cX8_lastRoad 6 (some .int) ∈ lw_tbl := tables_1_5_in _ (List.mem_of_getElem? (i := 58) rfl)
set_option maxRecDepth 100000 in
theorem cw_X9_init : Cond.code yX9_init cX9_init 1 none ∈ lw_tbl := tables_1_1_in _ (List.mem_of_getElem? (i := 29) rfl)
set_option maxRecDepth 100000 in
theorem cw_X9_feed : Cond.code yX9_feed cX9_feed 6 (some .int) ∈ lw_tbl := tables_1_2_in _ (List.mem_of_getElem? (i := 140) rfl)
set_option maxRecDepth 100000 in
theorem cw_X9_land : Cond.code yX9_land cX9_land 3 (some .int) ∈ lw_tbl := tables_1_2_in _ (List.mem_of_getElem? (i := 197) rfl)
set_option maxRecDepth 100000 in
theorem cw_X9_law : Cond.code yX9_law cX9_law 3 (some .int) ∈ lw_tbl := tables_1_3_in _ (List.mem_of_getElem? (i := 190) rfl)
set_option maxRecDepth 100000 in
theorem cw_X9_work : Cond.code yX9_work cX9_work 2 (some .int) ∈ lw_tbl := tables_1_4_in _ (List.mem_of_getElem? (i := 2) rfl)
set_option maxRecDepth 100000 in
theorem cw_X9_book : Cond.code yX9_book cX9_book 3 (some .int) ∈ lw_tbl := tables_1_4_in _ (List.mem_of_getElem? (i := 130) rfl)
set_option maxRecDepth 100000 in
theorem cw_X9_fault : Cond.code yX9_fault cX9_fault 1 (some .int) ∈ lw_tbl := tables_1_2_in _ (List.mem_of_getElem? (i := 148) rfl)
set_option maxRecDepth 100000 in
theorem cw_X9_undo : Cond.code yX9_undo cX9_undo 1 (some .int) ∈ lw_tbl := tables_1_2_in _ (List.mem_of_getElem? (i := 152) rfl)
set_option maxRecDepth 100000 in
theorem cw_X9_told : Cond.code yX9_told cX9_told 2 (some .int) ∈ lw_tbl := tables_1_4_in _ (List.mem_of_getElem? (i := 153) rfl)
set_option maxRecDepth 100000 in
theorem cw_X9_town : Cond.code yX9_town cX9_town 3 (some .int) ∈ lw_tbl := tables_1_4_in _ (List.mem_of_getElem? (i := 169) rfl)
set_option maxRecDepth 100000 in
theorem cw_X9_road : Cond.code yX9_road cX9_road 3 (some .int) ∈ lw_tbl := tables_1_4_in _ (List.mem_of_getElem? (i := 209) rfl)
set_option maxRecDepth 100000 in
theorem cw_X9_carter : Cond.code yX9_carter cX9_carter 3 (some .int) ∈ lw_tbl := tables_1_4_in _ (List.mem_of_getElem? (i := 229) rfl)
set_option maxRecDepth 100000 in
theorem cw_X9_would : Cond.code yX9_would cX9_would 9 (some .int) ∈ lw_tbl := tables_1_5_in _ (List.mem_of_getElem? (i := 0) rfl)
set_option maxRecDepth 100000 in
theorem cw_X9_lasts : Cond.code yX9_lasts cX9_lasts 3 (some .int) ∈ lw_tbl := tables_1_5_in _ (List.mem_of_getElem? (i := 8) rfl)
set_option maxRecDepth 100000 in
theorem cw_X9_soon : Cond.code yX9_soon cX9_soon 4 (some .int) ∈ lw_tbl := tables_1_5_in _ (List.mem_of_getElem? (i := 18) rfl)
set_option maxRecDepth 100000 in
theorem cw_X9_way : Cond.code yX9_way cX9_way 5 (some .int) ∈ lw_tbl := tables_1_5_in _ (List.mem_of_getElem? (i := 50) rfl)
set_option maxRecDepth 100000 in
theorem cw_X9_latest : Cond.code yX9_latest cX9_latest 11 (some .int) ∈ lw_tbl := tables_1_5_in _ (List.mem_of_getElem? (i := 65) rfl)
set_option maxRecDepth 100000 in
theorem cw_X9_day : Cond.code yX9_day cX9_day 9 (some .int) ∈ lw_tbl := tables_1_5_in _ (List.mem_of_getElem? (i := 72) rfl)
set_option maxRecDepth 100000 in
theorem cw_X9_farthest : Cond.code yX9_farthest cX9_farthest 7 (some .int) ∈ lw_tbl := tables_1_5_in _ (List.mem_of_getElem? (i := 79) rfl)
set_option maxRecDepth 100000 in
theorem cw_X9_joined : Cond.code yX9_joined cX9_joined 2 (some .boolean) ∈ lw_tbl := tables_1_5_in _ (List.mem_of_getElem? (i := 86) rfl)
set_option maxRecDepth 100000 in
theorem cw_X9_part : Cond.code yX9_part cX9_part 4 (some .int) ∈ lw_tbl := tables_1_5_in _ (List.mem_of_getElem? (i := 108) rfl)
set_option maxRecDepth 100000 in
theorem cw_X9_mend : Cond.code yX9_mend cX9_mend 9 (some .int) ∈ lw_tbl := tables_1_5_in _ (List.mem_of_getElem? (i := 119) rfl)
set_option maxRecDepth 100000 in
theorem cw_X9_picnic : Cond.code yX9_picnic cX9_picnic 2 (some .int) ∈ lw_tbl := tables_1_5_in _ (List.mem_of_getElem? (i := 140) rfl)
set_option maxRecDepth 100000 in
theorem cw_X9_fits : Cond.code yX9_fits cX9_fits 2 (some .int) ∈ lw_tbl := tables_1_5_in _ (List.mem_of_getElem? (i := 154) rfl)
set_option maxRecDepth 100000 in
theorem cw_X9_look : Cond.code yX9_look cX9_look 3 (some .int) ∈ lw_tbl := tables_1_5_in _ (List.mem_of_getElem? (i := 169) rfl)
set_option maxRecDepth 100000 in
theorem cw_X9_inn : Cond.code yX9_inn cX9_inn 10 (some .int) ∈ lw_tbl := tables_1_5_in _ (List.mem_of_getElem? (i := 186) rfl)
set_option maxRecDepth 100000 in
theorem cw_X9_innShare : Cond.code yX9_innShare cX9_innShare 4 (some .int) ∈ lw_tbl := tables_1_5_in _ (List.mem_of_getElem? (i := 189) rfl)
set_option maxRecDepth 100000 in
theorem cw_X9_luck : Cond.code yX9_luck cX9_luck 12 (some .long) ∈ lw_tbl := tables_1_5_in _ (List.mem_of_getElem? (i := 196) rfl)
set_option maxRecDepth 100000 in
theorem cw_X9_power : Cond.code yX9_power cX9_power 5 (some .long) ∈ lw_tbl := tables_1_5_in _ (List.mem_of_getElem? (i := 199) rfl)
set_option maxRecDepth 100000 in
theorem cw_X9_oats : Cond.code yX9_oats cX9_oats 6 (some .int) ∈ lw_tbl := tables_1_5_in _ (List.mem_of_getElem? (i := 207) rfl)
set_option maxRecDepth 100000 in
theorem cw_X9_given : Cond.code yX9_given cX9_given 5 (some .int) ∈ lw_tbl := tables_1_5_in _ (List.mem_of_getElem? (i := 211) rfl)
set_option maxRecDepth 100000 in
theorem cw_X9_weariest : Cond.code yX9_weariest cX9_weariest 5 (some .int) ∈ lw_tbl := tables_1_5_in _ (List.mem_of_getElem? (i := 218) rfl)
set_option maxRecDepth 100000 in
theorem cw_X9_arrives : Cond.code yX9_arrives cX9_arrives 4 (some .int) ∈ lw_tbl := tables_1_5_in _ (List.mem_of_getElem? (i := 225) rfl)
set_option maxRecDepth 100000 in
theorem cw_X9_reach : Cond.code yX9_reach cX9_reach 5 (some .int) ∈ lw_tbl := tables_1_5_in _ (List.mem_of_getElem? (i := 239) rfl)
set_option maxRecDepth 100000 in
theorem cw_X9_year : Cond.code yX9_year cX9_year 5 (some .int) ∈ lw_tbl := tables_1_6_in _ (List.mem_of_getElem? (i := 6) rfl)
set_option maxRecDepth 100000 in
theorem cw_X9_span : Cond.code yX9_span cX9_span 12 (some .int) ∈ lw_tbl := tables_1_6_in _ (List.mem_of_getElem? (i := 33) rfl)
set_option maxRecDepth 100000 in
theorem cw_X9_liveYear : Cond.code yX9_liveYear cX9_liveYear 5 none ∈ lw_tbl := tables_1_6_in _ (List.mem_of_getElem? (i := 10) rfl)
set_option maxRecDepth 100000 in
theorem cw_X9_image : Cond.code yX9_image cX9_image 1 (some .int) ∈ lw_tbl := tables_1_2_in _ (List.mem_of_getElem? (i := 164) rfl)
set_option maxRecDepth 100000 in
theorem cw_X9_restore : Cond.code yX9_restore cX9_restore 1 (some .int) ∈ lw_tbl := tables_1_2_in _ (List.mem_of_getElem? (i := 177) rfl)
set_option maxRecDepth 100000 in
theorem cw_X9_status : Cond.code yX9_status cX9_status 2 (some .int) ∈ lw_tbl := tables_1_2_in _ (List.mem_of_getElem? (i := 185) rfl)
set_option maxRecDepth 100000 in
theorem cw_X9_count : Cond.code yX9_count cX9_count 2 (some .int) ∈ lw_tbl := tables_1_2_in _ (List.mem_of_getElem? (i := 189) rfl)
set_option maxRecDepth 100000 in
theorem cw_X9_within : Cond.code yX9_within cX9_within 3 (some .boolean) ∈ lw_tbl := tables_1_2_in _ (List.mem_of_getElem? (i := 207) rfl)
set_option maxRecDepth 100000 in
theorem cw_X9_require : Cond.code yX9_require cX9_require 2 none ∈ lw_tbl := tables_1_2_in _ (List.mem_of_getElem? (i := 211) rfl)
set_option maxRecDepth 100000 in
theorem cw_X9_requireWeekDay : Cond.code yX9_requireWeekDay cX9_requireWeekDay 2 none ∈ lw_tbl := tables_1_5_in _ (List.mem_of_getElem? (i := 90) rfl)
set_option maxRecDepth 100000 in
theorem cw_X9_requireThere : Cond.code yX9_requireThere cX9_requireThere 3 none ∈ lw_tbl := tables_1_4_in _ (List.mem_of_getElem? (i := 177) rfl)
set_option maxRecDepth 100000 in
theorem cw_X9_requireTown : Cond.code yX9_requireTown cX9_requireTown 2 none ∈ lw_tbl := tables_1_4_in _ (List.mem_of_getElem? (i := 173) rfl)
set_option maxRecDepth 100000 in
theorem cw_X9_requireRoad : Cond.code yX9_requireRoad cX9_requireRoad 2 none ∈ lw_tbl := tables_1_4_in _ (List.mem_of_getElem? (i := 213) rfl)
set_option maxRecDepth 100000 in
theorem cw_X9_requireCarter : Cond.code yX9_requireCarter cX9_requireCarter 2 none ∈ lw_tbl := tables_1_4_in _ (List.mem_of_getElem? (i := 233) rfl)
set_option maxRecDepth 100000 in
theorem cw_X9_openText : Cond.code yX9_openText cX9_openText 3 none ∈ lw_tbl := tables_1_2_in _ (List.mem_of_getElem? (i := 201) rfl)
set_option maxRecDepth 100000 in
theorem cw_X9_faulty : Cond.code yX9_faulty cX9_faulty 1 (some .int) ∈ lw_tbl := tables_1_3_in _ (List.mem_of_getElem? (i := 167) rfl)
set_option maxRecDepth 100000 in
theorem cw_X10_thrown : Cond.code yX10_thrown cX10_thrown 1 (some .int) ∈ lw_tbl := tables_1_6_in _ (List.mem_of_getElem? (i := 38) rfl)
set_option maxRecDepth 100000 in
theorem cw_X10_may : Cond.code yX10_may cX10_may 4 (some .boolean) ∈ lw_tbl := tables_1_6_in _ (List.mem_of_getElem? (i := 224) rfl)
set_option maxRecDepth 100000 in
theorem cw_X10_within : Cond.code yX10_within cX10_within 3 (some .boolean) ∈ lw_tbl := tables_1_7_in _ (List.mem_of_getElem? (i := 201) rfl)
set_option maxRecDepth 100000 in
theorem cw_X10_init : Cond.code yX10_init cX10_init 1 none ∈ lw_tbl := tables_1_6_in _ (List.mem_of_getElem? (i := 43) rfl)
set_option maxRecDepth 100000 in
theorem cw_X10_feed : Cond.code yX10_feed cX10_feed 8 (some .int) ∈ lw_tbl := tables_1_6_in _ (List.mem_of_getElem? (i := 212) rfl)
set_option maxRecDepth 100000 in
theorem cw_X10_fine : Cond.code yX10_fine cX10_fine 1 (some .boolean) ∈ lw_tbl := tables_1_6_in _ (List.mem_of_getElem? (i := 232) rfl)
set_option maxRecDepth 100000 in
theorem cw_X10_wrong : Cond.code yX10_wrong cX10_wrong 3 none ∈ lw_tbl := tables_1_7_in _ (List.mem_of_getElem? (i := 22) rfl)
set_option maxRecDepth 100000 in
theorem cw_X10_here : Cond.code yX10_here cX10_here 1 (some .int) ∈ lw_tbl := tables_1_7_in _ (List.mem_of_getElem? (i := 0) rfl)
set_option maxRecDepth 100000 in
theorem cw_X10_isSmall : Cond.code yX10_isSmall cX10_isSmall 1 (some .boolean) ∈ lw_tbl := tables_1_7_in _ (List.mem_of_getElem? (i := 7) rfl)
set_option maxRecDepth 100000 in
theorem cw_X10_isDigit : Cond.code yX10_isDigit cX10_isDigit 1 (some .boolean) ∈ lw_tbl := tables_1_7_in _ (List.mem_of_getElem? (i := 49) rfl)
set_option maxRecDepth 100000 in
theorem cw_X10_word : Cond.code yX10_word cX10_word 4 (some .int) ∈ lw_tbl := tables_1_7_in _ (List.mem_of_getElem? (i := 4) rfl)
set_option maxRecDepth 100000 in
theorem cw_X10_of : Cond.code yX10_of cX10_of 3 (some .int) ∈ lw_tbl := tables_1_7_in _ (List.mem_of_getElem? (i := 14) rfl)
set_option maxRecDepth 100000 in
theorem cw_X10_pass : Cond.code yX10_pass cX10_pass 1 none ∈ lw_tbl := tables_1_7_in _ (List.mem_of_getElem? (i := 30) rfl)
set_option maxRecDepth 100000 in
theorem cw_X10_readNumber : Cond.code yX10_readNumber cX10_readNumber 6 (some .int) ∈ lw_tbl := tables_1_7_in _ (List.mem_of_getElem? (i := 46) rfl)
set_option maxRecDepth 100000 in
theorem cw_X10_sign : Cond.code yX10_sign cX10_sign 2 none ∈ lw_tbl := tables_1_7_in _ (List.mem_of_getElem? (i := 53) rfl)
set_option maxRecDepth 100000 in
theorem cw_X10_isMore : Cond.code yX10_isMore cX10_isMore 1 (some .boolean) ∈ lw_tbl := tables_1_6_in _ (List.mem_of_getElem? (i := 236) rfl)
set_option maxRecDepth 100000 in
theorem cw_X10_begins : Cond.code yX10_begins cX10_begins 2 none ∈ lw_tbl := tables_1_6_in _ (List.mem_of_getElem? (i := 228) rfl)
set_option maxRecDepth 100000 in
theorem cw_X10_result : Cond.code yX10_result cX10_result 2 (some .int) ∈ lw_tbl := tables_1_7_in _ (List.mem_of_getElem? (i := 57) rfl)
set_option maxRecDepth 100000 in
theorem cw_X10_fault : Cond.code yX10_fault cX10_fault 1 (some .int) ∈ lw_tbl := tables_1_6_in _ (List.mem_of_getElem? (i := 216) rfl)
set_option maxRecDepth 100000 in
theorem cw_X10_copies : Cond.code yX10_copies cX10_copies 5 none ∈ lw_tbl := tables_1_6_in _ (List.mem_of_getElem? (i := 56) rfl)
set_option maxRecDepth 100000 in
theorem cw_X10_clears : Cond.code yX10_clears cX10_clears 1 none ∈ lw_tbl := tables_1_6_in _ (List.mem_of_getElem? (i := 48) rfl)
set_option maxRecDepth 100000 in
theorem cw_X10_sets : Cond.code yX10_sets cX10_sets 2 none ∈ lw_tbl := tables_1_6_in _ (List.mem_of_getElem? (i := 52) rfl)
set_option maxRecDepth 100000 in
theorem cw_X10_isRow : Cond.code yX10_isRow cX10_isRow 1 (some .boolean) ∈ lw_tbl := tables_1_7_in _ (List.mem_of_getElem? (i := 10) rfl)
set_option maxRecDepth 100000 in
theorem cw_X10_isFull : Cond.code yX10_isFull cX10_isFull 2 (some .boolean) ∈ lw_tbl := tables_1_7_in _ (List.mem_of_getElem? (i := 26) rfl)
set_option maxRecDepth 100000 in
theorem cw_X10_readTown : Cond.code yX10_readTown cX10_readTown 1 (some .int) ∈ lw_tbl := tables_1_7_in _ (List.mem_of_getElem? (i := 42) rfl)
set_option maxRecDepth 100000 in
theorem cw_X10_readRoad : Cond.code yX10_readRoad cX10_readRoad 6 none ∈ lw_tbl := tables_1_7_in _ (List.mem_of_getElem? (i := 38) rfl)
set_option maxRecDepth 100000 in
theorem cw_X10_readRow : Cond.code yX10_readRow cX10_readRow 2 none ∈ lw_tbl := tables_1_7_in _ (List.mem_of_getElem? (i := 34) rfl)
set_option maxRecDepth 100000 in
theorem cw_X10_land : Cond.code yX10_land cX10_land 4 (some .int) ∈ lw_tbl := tables_1_6_in _ (List.mem_of_getElem? (i := 220) rfl)
set_option maxRecDepth 100000 in
theorem cw_X10_emit : Cond.code yX10_emit cX10_emit 3 none ∈ lw_tbl := tables_1_7_in _ (List.mem_of_getElem? (i := 81) rfl)
set_option maxRecDepth 100000 in
theorem cw_X10_opensOne : Cond.code yX10_opensOne cX10_opensOne 2 none ∈ lw_tbl := tables_1_7_in _ (List.mem_of_getElem? (i := 77) rfl)
set_option maxRecDepth 100000 in
theorem cw_X10_readSum : Cond.code yX10_readSum cX10_readSum 2 none ∈ lw_tbl := tables_1_7_in _ (List.mem_of_getElem? (i := 65) rfl)
set_option maxRecDepth 100000 in
theorem cw_X10_readProduct : Cond.code yX10_readProduct cX10_readProduct 2 none ∈ lw_tbl := tables_1_7_in _ (List.mem_of_getElem? (i := 69) rfl)
set_option maxRecDepth 100000 in
theorem cw_X10_readTwo : Cond.code yX10_readTwo cX10_readTwo 3 none ∈ lw_tbl := tables_1_7_in _ (List.mem_of_getElem? (i := 86) rfl)
set_option maxRecDepth 100000 in
theorem cw_X10_factHere : Cond.code yX10_factHere cX10_factHere 2 (some .int) ∈ lw_tbl := tables_1_7_in _ (List.mem_of_getElem? (i := 91) rfl)
set_option maxRecDepth 100000 in
theorem cw_X10_readUnit : Cond.code yX10_readUnit cX10_readUnit 2 none ∈ lw_tbl := tables_1_7_in _ (List.mem_of_getElem? (i := 73) rfl)
set_option maxRecDepth 100000 in
theorem cw_X10_law : Cond.code yX10_law cX10_law 3 (some .int) ∈ lw_tbl := tables_1_7_in _ (List.mem_of_getElem? (i := 61) rfl)
set_option maxRecDepth 100000 in
theorem cw_X10_valueNow : Cond.code yX10_valueNow cX10_valueNow 4 (some .int) ∈ lw_tbl := tables_1_7_in _ (List.mem_of_getElem? (i := 183) rfl)
set_option maxRecDepth 100000 in
theorem cw_X10_both : Cond.code yX10_both cX10_both 3 (some .int) ∈ lw_tbl := tables_1_7_in _ (List.mem_of_getElem? (i := 186) rfl)
set_option maxRecDepth 100000 in
theorem cw_X10_paceNow : Cond.code yX10_paceNow cX10_paceNow 2 (some .int) ∈ lw_tbl := tables_1_7_in _ (List.mem_of_getElem? (i := 179) rfl)
set_option maxRecDepth 100000 in
theorem cw_X10_tellsStep : Cond.code yX10_tellsStep cX10_tellsStep 4 none ∈ lw_tbl := tables_1_7_in _ (List.mem_of_getElem? (i := 121) rfl)
set_option maxRecDepth 100000 in
theorem cw_X10_stepOf : Cond.code yX10_stepOf cX10_stepOf 1 (some .int) ∈ lw_tbl := tables_1_7_in _ (List.mem_of_getElem? (i := 109) rfl)
set_option maxRecDepth 100000 in
theorem cw_X10_readAgain : Cond.code yX10_readAgain cX10_readAgain 3 none ∈ lw_tbl := tables_1_7_in _ (List.mem_of_getElem? (i := 117) rfl)
set_option maxRecDepth 100000 in
theorem cw_X10_readStep : Cond.code yX10_readStep cX10_readStep 3 none ∈ lw_tbl := tables_1_7_in _ (List.mem_of_getElem? (i := 106) rfl)
set_option maxRecDepth 100000 in
theorem cw_X10_work : Cond.code yX10_work cX10_work 4 (some .int) ∈ lw_tbl := tables_1_7_in _ (List.mem_of_getElem? (i := 102) rfl)
set_option maxRecDepth 100000 in
theorem cw_X10_goesSteps : Cond.code yX10_goesSteps cX10_goesSteps 6 none ∈ lw_tbl := tables_1_7_in _ (List.mem_of_getElem? (i := 129) rfl)
set_option maxRecDepth 100000 in
theorem cw_X10_take : Cond.code yX10_take cX10_take 1 none ∈ lw_tbl := tables_1_7_in _ (List.mem_of_getElem? (i := 125) rfl)
set_option maxRecDepth 100000 in
theorem cw_X10_dayOf : Cond.code yX10_dayOf cX10_dayOf 1 (some .int) ∈ lw_tbl := tables_1_7_in _ (List.mem_of_getElem? (i := 164) rfl)
set_option maxRecDepth 100000 in
theorem cw_X10_rests : Cond.code yX10_rests cX10_rests 3 (some .boolean) ∈ lw_tbl := tables_1_7_in _ (List.mem_of_getElem? (i := 161) rfl)
set_option maxRecDepth 100000 in
theorem cw_X10_cartersOn : Cond.code yX10_cartersOn cX10_cartersOn 4 (some .int) ∈ lw_tbl := tables_1_7_in _ (List.mem_of_getElem? (i := 168) rfl)
set_option maxRecDepth 100000 in
theorem cw_X10_ones : Cond.code yX10_ones cX10_ones 3 (some .int) ∈ lw_tbl := tables_1_7_in _ (List.mem_of_getElem? (i := 171) rfl)
set_option maxRecDepth 100000 in
theorem cw_X10_paceOf : Cond.code yX10_paceOf cX10_paceOf 9 (some .int) ∈ lw_tbl := tables_1_7_in _ (List.mem_of_getElem? (i := 175) rfl)
set_option maxRecDepth 100000 in
theorem cw_X10_paceBy : Cond.code yX10_paceBy cX10_paceBy 4 (some .int) ∈ lw_tbl := tables_1_7_in _ (List.mem_of_getElem? (i := 157) rfl)
set_option maxRecDepth 100000 in
theorem cw_X10_plainOf : Cond.code yX10_plainOf cX10_plainOf 2 (some .int) ∈ lw_tbl := tables_1_7_in _ (List.mem_of_getElem? (i := 229) rfl)
set_option maxRecDepth 100000 in
theorem cw_X10_otherOf : Cond.code yX10_otherOf cX10_otherOf 3 (some .int) ∈ lw_tbl := tables_1_7_in _ (List.mem_of_getElem? (i := 145) rfl)
set_option maxRecDepth 100000 in
theorem cw_X10_goesFrom : Cond.code yX10_goesFrom cX10_goesFrom 3 (some .boolean) ∈ lw_tbl := tables_1_7_in _ (List.mem_of_getElem? (i := 141) rfl)
set_option maxRecDepth 100000 in
theorem cw_X10_isSet : Cond.code yX10_isSet cX10_isSet 3 (some .boolean) ∈ lw_tbl := tables_1_7_in _ (List.mem_of_getElem? (i := 137) rfl)
set_option maxRecDepth 100000 in
theorem cw_X10_isTurned : Cond.code yX10_isTurned cX10_isTurned 3 (some .boolean) ∈ lw_tbl := tables_1_7_in _ (List.mem_of_getElem? (i := 149) rfl)
set_option maxRecDepth 100000 in
theorem cw_X10_dayGoes : Cond.code yX10_dayGoes cX10_dayGoes 3 none ∈ lw_tbl := tables_1_7_in _ (List.mem_of_getElem? (i := 153) rfl)
set_option maxRecDepth 100000 in
theorem cw_X10_isDone : Cond.code yX10_isDone cX10_isDone 5 (some .boolean) ∈ lw_tbl := tables_1_7_in _ (List.mem_of_getElem? (i := 133) rfl)
set_option maxRecDepth 100000 in
theorem cw_X10_book : Cond.code yX10_book cX10_book 6 (some .int) ∈ lw_tbl := tables_1_7_in _ (List.mem_of_getElem? (i := 190) rfl)
set_option maxRecDepth 100000 in
theorem cw_X10_undo : Cond.code yX10_undo cX10_undo 2 (some .int) ∈ lw_tbl := tables_1_7_in _ (List.mem_of_getElem? (i := 194) rfl)
set_option maxRecDepth 100000 in
theorem cw_X10_onRoads : Cond.code yX10_onRoads cX10_onRoads 3 (some .int) ∈ lw_tbl := tables_1_7_in _ (List.mem_of_getElem? (i := 205) rfl)
set_option maxRecDepth 100000 in
theorem cw_X10_resting : Cond.code yX10_resting cX10_resting 3 (some .int) ∈ lw_tbl := tables_1_7_in _ (List.mem_of_getElem? (i := 209) rfl)
set_option maxRecDepth 100000 in
theorem cw_X10_told : Cond.code yX10_told cX10_told 2 (some .int) ∈ lw_tbl := tables_1_7_in _ (List.mem_of_getElem? (i := 198) rfl)
set_option maxRecDepth 100000 in
theorem cw_X10_isTown : Cond.code yX10_isTown cX10_isTown 2 (some .boolean) ∈ lw_tbl := tables_1_7_in _ (List.mem_of_getElem? (i := 217) rfl)
set_option maxRecDepth 100000 in
theorem cw_X10_isRoad : Cond.code yX10_isRoad cX10_isRoad 2 (some .boolean) ∈ lw_tbl := tables_1_7_in _ (List.mem_of_getElem? (i := 225) rfl)
set_option maxRecDepth 100000 in
theorem cw_X10_isCarter : Cond.code yX10_isCarter cX10_isCarter 2 (some .boolean) ∈ lw_tbl := tables_1_7_in _ (List.mem_of_getElem? (i := 237) rfl)
set_option maxRecDepth 100000 in
theorem cw_X10_town : Cond.code yX10_town cX10_town 5 (some .int) ∈ lw_tbl := tables_1_7_in _ (List.mem_of_getElem? (i := 213) rfl)
set_option maxRecDepth 100000 in
theorem cw_X10_road : Cond.code yX10_road cX10_road 3 (some .int) ∈ lw_tbl := tables_1_7_in _ (List.mem_of_getElem? (i := 221) rfl)
set_option maxRecDepth 100000 in
theorem cw_X10_carter : Cond.code yX10_carter cX10_carter 3 (some .int) ∈ lw_tbl := tables_1_7_in _ (List.mem_of_getElem? (i := 233) rfl)
set_option maxRecDepth 100000 in
theorem cw_X10_would : Cond.code yX10_would cX10_would 9 (some .int) ∈ lw_tbl := tables_1_8_in _ (List.mem_of_getElem? (i := 1) rfl)
set_option maxRecDepth 100000 in
theorem cw_X10_laysPlain : Cond.code yX10_laysPlain cX10_laysPlain 2 none ∈ lw_tbl := tables_1_8_in _ (List.mem_of_getElem? (i := 9) rfl)
set_option maxRecDepth 100000 in
theorem cw_X10_takenOf : Cond.code yX10_takenOf cX10_takenOf 6 (some .int) ∈ lw_tbl := tables_1_8_in _ (List.mem_of_getElem? (i := 13) rfl)
set_option maxRecDepth 100000 in
theorem cw_X10_lasts : Cond.code yX10_lasts cX10_lasts 3 (some .int) ∈ lw_tbl := tables_1_8_in _ (List.mem_of_getElem? (i := 5) rfl)
set_option maxRecDepth 100000 in
theorem cw_X10_laysSoon : Cond.code yX10_laysSoon cX10_laysSoon 7 none ∈ lw_tbl := tables_1_8_in _ (List.mem_of_getElem? (i := 25) rfl)
set_option maxRecDepth 100000 in
theorem cw_X10_soonOf : Cond.code yX10_soonOf cX10_soonOf 4 (some .int) ∈ lw_tbl := tables_1_8_in _ (List.mem_of_getElem? (i := 21) rfl)
set_option maxRecDepth 100000 in
theorem cw_X10_soon : Cond.code yX10_soon cX10_soon 4 (some .int) ∈ lw_tbl := tables_1_8_in _ (List.mem_of_getElem? (i := 17) rfl)
set_option maxRecDepth 100000 in
theorem cw_X10_lastRoad : Cond.code yX10_lastRoad cX10_lastRoad 5 (some .int) ∈ lw_tbl := tables_1_8_in _ (List.mem_of_getElem? (i := 33) rfl)
set_option maxRecDepth 100000 in
theorem cw_X10_way : Cond.code yX10_way cX10_way 9 (some .int) ∈ lw_tbl := tables_1_8_in _ (List.mem_of_getElem? (i := 29) rfl)
set_option maxRecDepth 100000 in
theorem cw_X10_latest : Cond.code yX10_latest cX10_latest 7 (some .int) ∈ lw_tbl := tables_1_8_in _ (List.mem_of_getElem? (i := 37) rfl)
set_option maxRecDepth 100000 in
theorem cw_X10_day : Cond.code yX10_day cX10_day 9 (some .int) ∈ lw_tbl := tables_1_8_in _ (List.mem_of_getElem? (i := 41) rfl)
set_option maxRecDepth 100000 in
theorem cw_X10_farthest : Cond.code yX10_farthest cX10_farthest 7 (some .int) ∈ lw_tbl := tables_1_8_in _ (List.mem_of_getElem? (i := 45) rfl)
set_option maxRecDepth 100000 in
theorem cw_X10_reach : Cond.code yX10_reach cX10_reach 5 (some .int) ∈ lw_tbl := tables_1_8_in _ (List.mem_of_getElem? (i := 49) rfl)
set_option maxRecDepth 100000 in
theorem cw_X10_goingOn : Cond.code yX10_goingOn cX10_goingOn 4 (some .int) ∈ lw_tbl := tables_1_8_in _ (List.mem_of_getElem? (i := 61) rfl)
set_option maxRecDepth 100000 in
theorem cw_X10_cameTo : Cond.code yX10_cameTo cX10_cameTo 7 (some .int) ∈ lw_tbl := tables_1_8_in _ (List.mem_of_getElem? (i := 65) rfl)
set_option maxRecDepth 100000 in
theorem cw_X10_areJoined : Cond.code yX10_areJoined cX10_areJoined 2 (some .boolean) ∈ lw_tbl := tables_1_8_in _ (List.mem_of_getElem? (i := 57) rfl)
set_option maxRecDepth 100000 in
theorem cw_X10_joinedDays : Cond.code yX10_joinedDays cX10_joinedDays 3 (some .int) ∈ lw_tbl := tables_1_8_in _ (List.mem_of_getElem? (i := 77) rfl)
set_option maxRecDepth 100000 in
theorem cw_X10_joined : Cond.code yX10_joined cX10_joined 2 (some .boolean) ∈ lw_tbl := tables_1_8_in _ (List.mem_of_getElem? (i := 53) rfl)
set_option maxRecDepth 100000 in
theorem cw_X10_part : Cond.code yX10_part cX10_part 7 (some .int) ∈ lw_tbl := tables_1_8_in _ (List.mem_of_getElem? (i := 69) rfl)
set_option maxRecDepth 100000 in
theorem cw_X10_mend : Cond.code yX10_mend cX10_mend 8 (some .int) ∈ lw_tbl := tables_1_8_in _ (List.mem_of_getElem? (i := 73) rfl)
set_option maxRecDepth 100000 in
theorem cw_X10_picnic : Cond.code yX10_picnic cX10_picnic 9 (some .int) ∈ lw_tbl := tables_1_8_in _ (List.mem_of_getElem? (i := 81) rfl)
set_option maxRecDepth 100000 in
theorem cw_X10_milesBy : Cond.code yX10_milesBy cX10_milesBy 6 (some .int) ∈ lw_tbl := tables_1_8_in _ (List.mem_of_getElem? (i := 93) rfl)
set_option maxRecDepth 100000 in
theorem cw_X10_fitBits : Cond.code yX10_fitBits cX10_fitBits 6 (some .int) ∈ lw_tbl := tables_1_8_in _ (List.mem_of_getElem? (i := 89) rfl)
set_option maxRecDepth 100000 in
theorem cw_X10_fits : Cond.code yX10_fits cX10_fits 2 (some .int) ∈ lw_tbl := tables_1_8_in _ (List.mem_of_getElem? (i := 85) rfl)
set_option maxRecDepth 100000 in
theorem cw_X10_worstOf : Cond.code yX10_worstOf cX10_worstOf 8 (some .int) ∈ lw_tbl := tables_1_8_in _ (List.mem_of_getElem? (i := 105) rfl)
set_option maxRecDepth 100000 in
theorem cw_X10_isWritten : Cond.code yX10_isWritten cX10_isWritten 3 (some .boolean) ∈ lw_tbl := tables_1_8_in _ (List.mem_of_getElem? (i := 101) rfl)
set_option maxRecDepth 100000 in
theorem cw_X10_look : Cond.code yX10_look cX10_look 8 (some .int) ∈ lw_tbl := tables_1_8_in _ (List.mem_of_getElem? (i := 97) rfl)
set_option maxRecDepth 100000 in
theorem cw_X10_hasBy : Cond.code yX10_hasBy cX10_hasBy 4 (some .int) ∈ lw_tbl := tables_1_8_in _ (List.mem_of_getElem? (i := 112) rfl)
set_option maxRecDepth 100000 in
theorem cw_X10_inn : Cond.code yX10_inn cX10_inn 9 (some .int) ∈ lw_tbl := tables_1_8_in _ (List.mem_of_getElem? (i := 109) rfl)
set_option maxRecDepth 100000 in
theorem cw_X10_least : Cond.code yX10_least cX10_least 11 (some .long) ∈ lw_tbl := tables_1_8_in _ (List.mem_of_getElem? (i := 120) rfl)
set_option maxRecDepth 100000 in
theorem cw_X10_luck : Cond.code yX10_luck cX10_luck 10 (some .long) ∈ lw_tbl := tables_1_8_in _ (List.mem_of_getElem? (i := 116) rfl)
set_option maxRecDepth 100000 in
theorem cw_X10_bounded : Cond.code yX10_bounded cX10_bounded 3 (some .int) ∈ lw_tbl := tables_1_8_in _ (List.mem_of_getElem? (i := 132) rfl)
set_option maxRecDepth 100000 in
theorem cw_X10_oatsBy : Cond.code yX10_oatsBy cX10_oatsBy 5 (some .int) ∈ lw_tbl := tables_1_8_in _ (List.mem_of_getElem? (i := 128) rfl)
set_option maxRecDepth 100000 in
theorem cw_X10_oats : Cond.code yX10_oats cX10_oats 5 (some .int) ∈ lw_tbl := tables_1_8_in _ (List.mem_of_getElem? (i := 124) rfl)
set_option maxRecDepth 100000 in
theorem cw_X10_weariest : Cond.code yX10_weariest cX10_weariest 4 (some .int) ∈ lw_tbl := tables_1_8_in _ (List.mem_of_getElem? (i := 136) rfl)
set_option maxRecDepth 100000 in
theorem cw_X10_arrives : Cond.code yX10_arrives cX10_arrives 3 (some .int) ∈ lw_tbl := tables_1_8_in _ (List.mem_of_getElem? (i := 140) rfl)
set_option maxRecDepth 100000 in
theorem cw_X10_draws : Cond.code yX10_draws cX10_draws 2 (some .int) ∈ lw_tbl := tables_1_8_in _ (List.mem_of_getElem? (i := 155) rfl)
set_option maxRecDepth 100000 in
theorem cw_X10_yearGoes : Cond.code yX10_yearGoes cX10_yearGoes 6 none ∈ lw_tbl := tables_1_8_in _ (List.mem_of_getElem? (i := 151) rfl)
set_option maxRecDepth 100000 in
theorem cw_X10_isYear : Cond.code yX10_isYear cX10_isYear 2 (some .boolean) ∈ lw_tbl := tables_1_8_in _ (List.mem_of_getElem? (i := 147) rfl)
set_option maxRecDepth 100000 in
theorem cw_X10_year : Cond.code yX10_year cX10_year 7 (some .int) ∈ lw_tbl := tables_1_8_in _ (List.mem_of_getElem? (i := 144) rfl)
set_option maxRecDepth 100000 in
theorem cw_X10_span : Cond.code yX10_span cX10_span 12 (some .int) ∈ lw_tbl := tables_1_8_in _ (List.mem_of_getElem? (i := 160) rfl)
set_option maxRecDepth 100000 in
theorem cw_X10_keepsRow : Cond.code yX10_keepsRow cX10_keepsRow 6 (some .int) ∈ lw_tbl := tables_1_8_in _ (List.mem_of_getElem? (i := 172) rfl)
set_option maxRecDepth 100000 in
theorem cw_X10_keepsAll : Cond.code yX10_keepsAll cX10_keepsAll 4 none ∈ lw_tbl := tables_1_8_in _ (List.mem_of_getElem? (i := 168) rfl)
set_option maxRecDepth 100000 in
theorem cw_X10_image : Cond.code yX10_image cX10_image 1 (some .int) ∈ lw_tbl := tables_1_8_in _ (List.mem_of_getElem? (i := 164) rfl)
set_option maxRecDepth 100000 in
theorem cw_X10_restore : Cond.code yX10_restore cX10_restore 1 (some .int) ∈ lw_tbl := tables_1_8_in _ (List.mem_of_getElem? (i := 176) rfl)
set_option maxRecDepth 100000 in
theorem cw_X10_status : Cond.code yX10_status cX10_status 2 (some .int) ∈ lw_tbl := tables_1_8_in _ (List.mem_of_getElem? (i := 180) rfl)
set_option maxRecDepth 100000 in
theorem cw_X10_count : Cond.code yX10_count cX10_count 2 (some .int) ∈ lw_tbl := tables_1_8_in _ (List.mem_of_getElem? (i := 184) rfl)
set_option maxRecDepth 100000 in
theorem cw_L_land : Cond.codeWith yL_land cL_land 4 (some .int) [(0, 9, 12, 13)] ∈ lw_tbl := tables_1_2_in _ (List.mem_of_getElem? (i := 192) rfl)
set_option maxRecDepth 100000 in
theorem cw_L_law : Cond.codeWith yL_law cL_law 4 (some .int) [(0, 9, 12, 13)] ∈ lw_tbl := tables_1_3_in _ (List.mem_of_getElem? (i := 186) rfl)
set_option maxRecDepth 100000 in
theorem cw_L_work : Cond.codeWith yL_work cL_work 4 (some .int) [(0, 9, 12, 13)] ∈ lw_tbl := tables_1_3_in _ (List.mem_of_getElem? (i := 238) rfl)
set_option maxRecDepth 100000 in
theorem cw_L_book : Cond.codeWith yL_book cL_book 4 (some .int) [(0, 9, 12, 13)] ∈ lw_tbl := tables_1_4_in _ (List.mem_of_getElem? (i := 126) rfl)
set_option maxRecDepth 100000 in
theorem cw_L_told : Cond.codeWith yL_told cL_told 4 (some .int) [(0, 9, 12, 13)] ∈ lw_tbl := tables_1_4_in _ (List.mem_of_getElem? (i := 149) rfl)
set_option maxRecDepth 100000 in
theorem cw_L_town : Cond.codeWith yL_town cL_town 5 (some .int) [(0, 10, 13, 31), (0, 10, 17, 13)] ∈ lw_tbl := tables_1_4_in _ (List.mem_of_getElem? (i := 164) rfl)
set_option maxRecDepth 100000 in
theorem cw_L_road : Cond.codeWith yL_road cL_road 5 (some .int) [(0, 10, 13, 31), (0, 10, 17, 13)] ∈ lw_tbl := tables_1_4_in _ (List.mem_of_getElem? (i := 205) rfl)
set_option maxRecDepth 100000 in
theorem cw_L_carter : Cond.codeWith yL_carter cL_carter 5 (some .int) [(0, 10, 13, 31), (0, 10, 17, 13)] ∈ lw_tbl := tables_1_4_in _ (List.mem_of_getElem? (i := 225) rfl)
set_option maxRecDepth 100000 in
theorem cw_L_would : Cond.codeWith yL_would cL_would 11 (some .int) [(0, 22, 25, 13)] ∈ lw_tbl := tables_1_4_in _ (List.mem_of_getElem? (i := 236) rfl)
set_option maxRecDepth 100000 in
theorem cw_L_lasts : Cond.codeWith yL_lasts cL_lasts 5 (some .int) [(0, 10, 13, 31), (0, 10, 17, 13)] ∈ lw_tbl := tables_1_5_in _ (List.mem_of_getElem? (i := 4) rfl)
set_option maxRecDepth 100000 in
theorem cw_L_soon : Cond.codeWith yL_soon cL_soon 6 (some .int) [(0, 12, 15, 31), (0, 12, 19, 13)] ∈ lw_tbl := tables_1_5_in _ (List.mem_of_getElem? (i := 14) rfl)
set_option maxRecDepth 100000 in
theorem cw_L_way : Cond.codeWith yL_way cL_way 7 (some .int) [(0, 14, 17, 31), (0, 14, 21, 13)] ∈ lw_tbl := tables_1_5_in _ (List.mem_of_getElem? (i := 46) rfl)
set_option maxRecDepth 100000 in
theorem cw_L_latest : Cond.codeWith yL_latest cL_latest 7 (some .int) [(0, 14, 17, 31), (0, 14, 21, 13)] ∈ lw_tbl := tables_1_5_in _ (List.mem_of_getElem? (i := 61) rfl)
set_option maxRecDepth 100000 in
theorem cw_L_day : Cond.codeWith yL_day cL_day 6 (some .int) [(0, 12, 15, 31), (0, 12, 19, 13)] ∈ lw_tbl := tables_1_5_in _ (List.mem_of_getElem? (i := 68) rfl)
set_option maxRecDepth 100000 in
theorem cw_L_farthest : Cond.codeWith yL_farthest cL_farthest 4 (some .int) [(0, 9, 12, 13)] ∈ lw_tbl := tables_1_5_in _ (List.mem_of_getElem? (i := 75) rfl)
set_option maxRecDepth 100000 in
theorem cw_L_joined : Cond.codeWith yL_joined cL_joined 4 (some .int) [(0, 16, 19, 13)] ∈ lw_tbl := tables_1_5_in _ (List.mem_of_getElem? (i := 82) rfl)
set_option maxRecDepth 100000 in
theorem cw_L_part : Cond.codeWith yL_part cL_part 6 (some .int) [(0, 12, 15, 31), (0, 12, 19, 13)] ∈ lw_tbl := tables_1_5_in _ (List.mem_of_getElem? (i := 104) rfl)
set_option maxRecDepth 100000 in
theorem cw_L_mend : Cond.codeWith yL_mend cL_mend 4 (some .int) [(0, 9, 12, 13)] ∈ lw_tbl := tables_1_5_in _ (List.mem_of_getElem? (i := 115) rfl)
set_option maxRecDepth 100000 in
theorem cw_L_picnic : Cond.codeWith yL_picnic cL_picnic 4 (some .int) [(0, 9, 12, 13)] ∈ lw_tbl := tables_1_5_in _ (List.mem_of_getElem? (i := 136) rfl)
set_option maxRecDepth 100000 in
theorem cw_L_fits : Cond.codeWith yL_fits cL_fits 4 (some .int) [(0, 9, 12, 31)] ∈ lw_tbl := tables_1_5_in _ (List.mem_of_getElem? (i := 150) rfl)
set_option maxRecDepth 100000 in
theorem cw_L_look : Cond.codeWith yL_look cL_look 5 (some .int) [(0, 10, 13, 31), (0, 10, 17, 13)] ∈ lw_tbl := tables_1_5_in _ (List.mem_of_getElem? (i := 165) rfl)
set_option maxRecDepth 100000 in
theorem cw_L_inn : Cond.codeWith yL_inn cL_inn 6 (some .int) [(0, 12, 15, 13)] ∈ lw_tbl := tables_1_5_in _ (List.mem_of_getElem? (i := 182) rfl)
set_option maxRecDepth 100000 in
theorem cw_L_luck : Cond.codeWith yL_luck cL_luck 7 (some .int) [(0, 13, 16, 13)] ∈ lw_tbl := tables_1_5_in _ (List.mem_of_getElem? (i := 192) rfl)
set_option maxRecDepth 100000 in
theorem cw_L_oats : Cond.codeWith yL_oats cL_oats 6 (some .int) [(0, 12, 15, 31), (0, 12, 19, 13)] ∈ lw_tbl := tables_1_5_in _ (List.mem_of_getElem? (i := 203) rfl)
set_option maxRecDepth 100000 in
theorem cw_L_weariest : Cond.codeWith yL_weariest cL_weariest 4 (some .int) [(0, 9, 12, 13)] ∈ lw_tbl := tables_1_5_in _ (List.mem_of_getElem? (i := 214) rfl)
set_option maxRecDepth 100000 in
theorem cw_L_arrives : Cond.codeWith yL_arrives cL_arrives 4 (some .int) [(0, 9, 12, 31)] ∈ lw_tbl := tables_1_5_in _ (List.mem_of_getElem? (i := 221) rfl)
set_option maxRecDepth 100000 in
theorem cw_L_reach : Cond.codeWith yL_reach cL_reach 5 (some .int) [(0, 10, 13, 31), (0, 10, 17, 13)] ∈ lw_tbl := tables_1_5_in _ (List.mem_of_getElem? (i := 235) rfl)
set_option maxRecDepth 100000 in
theorem cw_L_year : Cond.codeWith yL_year cL_year 7 (some .int) [(0, 14, 17, 13)] ∈ lw_tbl := tables_1_6_in _ (List.mem_of_getElem? (i := 2) rfl)
set_option maxRecDepth 100000 in
theorem cw_L_span : Cond.codeWith yL_span cL_span 9 (some .int) [(0, 18, 21, 13)] ∈ lw_tbl := tables_1_6_in _ (List.mem_of_getElem? (i := 29) rfl)
set_option maxRecDepth 100000 in
theorem cw_J6_bitCount_0f7a4 : Cond.code yJ6_bitCount_0f7a4 cJ6_bitCount_0f7a4 1 (some .int) ∈ lw_tbl := tables_1_5_in _ (List.mem_of_getElem? (i := 127) rfl)
set_option maxRecDepth 100000 in
theorem cw_J9_max_7cf53 : Cond.code yJ9_max_7cf53 cJ9_max_7cf53 2 (some .int) ∈ lw_tbl := tables_1_4_in _ (List.mem_of_getElem? (i := 119) rfl)
set_option maxRecDepth 100000 in
theorem cw_J9_min_7cf53 : Cond.code yJ9_min_7cf53 cJ9_min_7cf53 2 (some .int) ∈ lw_tbl := tables_1_2_in _ (List.mem_of_getElem? (i := 204) rfl)
set_option maxRecDepth 100000 in
theorem cw_J7_fill_53178 : Cond.code yJ7_fill_53178 cJ7_fill_53178 4 none ∈ lw_tbl := tables_1_2_in _ (List.mem_of_getElem? (i := 87) rfl)
theorem cons_in {α : Type} {P : α → Prop} {a : α} {l : List α} (h : P a) (t : ∀ w ∈ l, P w) : ∀ w ∈ a :: l, P w := fun w hw => (List.mem_cons.mp hw).elim (fun e => by rw [e]; exact h) (t w)
set_option maxRecDepth 100000 in
theorem cdw_in0 : ∀ i ∈ aInf0, cdW i ∈ lw_tbl := cons_in (P := fun i : aI => cdW i ∈ lw_tbl) cw_X0_init (cons_in (P := fun i : aI => cdW i ∈ lw_tbl) cw_X0_begin (cons_in (P := fun i : aI => cdW i ∈ lw_tbl) cw_X0_readFrom (cons_in (P := fun i : aI => cdW i ∈ lw_tbl) cw_X0_readLine (cons_in (P := fun i : aI => cdW i ∈ lw_tbl) cw_X0_isTold (cons_in (P := fun i : aI => cdW i ∈ lw_tbl) cw_X0_dayLater (cons_in (P := fun i : aI => cdW i ∈ lw_tbl) cw_X0_fitting (cons_in (P := fun i : aI => cdW i ∈ lw_tbl) cw_X0_lookFor (cons_in (P := fun i : aI => cdW i ∈ lw_tbl) cw_X0_mostAlike (cons_in (P := fun i : aI => cdW i ∈ lw_tbl) cw_X1_resting (cons_in (P := fun i : aI => cdW i ∈ lw_tbl) cw_X1_going (cons_in (P := fun i : aI => cdW i ∈ lw_tbl) cw_X1_joins (cons_in (P := fun i : aI => cdW i ∈ lw_tbl) cw_X1_joinedDays (cons_in (P := fun i : aI => cdW i ∈ lw_tbl) cw_X1_daysIfChanged (cons_in (P := fun i : aI => cdW i ∈ lw_tbl) cw_X1_fewestCut (cons_in (P := fun i : aI => cdW i ∈ lw_tbl) cw_X1_mostApart (cons_in (P := fun i : aI => cdW i ∈ lw_tbl) cw_X1_mostApartFrom (cons_in (P := fun i : aI => cdW i ∈ lw_tbl) cw_X2_init (cons_in (P := fun i : aI => cdW i ∈ lw_tbl) cw_X2_readFrom (cons_in (P := fun i : aI => cdW i ∈ lw_tbl) cw_X2_readClause (cons_in (P := fun i : aI => cdW i ∈ lw_tbl) cw_X2_addTown (cons_in (P := fun i : aI => cdW i ∈ lw_tbl) cw_X2_addRoad (cons_in (P := fun i : aI => cdW i ∈ lw_tbl) cw_X2_addCarter (cons_in (P := fun i : aI => cdW i ∈ lw_tbl) cw_X2_touches (cons_in (P := fun i : aI => cdW i ∈ lw_tbl) cw_X2_acrossFrom (cons_in (P := fun i : aI => cdW i ∈ lw_tbl) cw_X2_endsAsBits (cons_in (P := fun i : aI => cdW i ∈ lw_tbl) cw_X2_roadsFrom (cons_in (P := fun i : aI => cdW i ∈ lw_tbl) cw_X3_init (cons_in (P := fun i : aI => cdW i ∈ lw_tbl) cw_X3_begin (cons_in (P := fun i : aI => cdW i ∈ lw_tbl) cw_X3_readFrom (cons_in (P := fun i : aI => cdW i ∈ lw_tbl) cw_X3_put (cons_in (P := fun i : aI => cdW i ∈ lw_tbl) cw_X3_readSum (cons_in (P := fun i : aI => cdW i ∈ lw_tbl) cw_X3_readProduct (cons_in (P := fun i : aI => cdW i ∈ lw_tbl) cw_X3_readUnit (cons_in (P := fun i : aI => cdW i ∈ lw_tbl) cw_X3_opens (cons_in (P := fun i : aI => cdW i ∈ lw_tbl) cw_X3_readTwo (cons_in (P := fun i : aI => cdW i ∈ lw_tbl) cw_X3_readGiven (cons_in (P := fun i : aI => cdW i ∈ lw_tbl) cw_X3_pace (cons_in (P := fun i : aI => cdW i ∈ lw_tbl) cw_X3_outOf (cons_in (P := fun i : aI => cdW i ∈ lw_tbl) cw_X3_plainPace (cons_in (P := fun i : aI => cdW i ∈ lw_tbl) cw_X4_init (cons_in (P := fun i : aI => cdW i ∈ lw_tbl) cw_X4_begin (cons_in (P := fun i : aI => cdW i ∈ lw_tbl) cw_X4_keepWork (cons_in (P := fun i : aI => cdW i ∈ lw_tbl) cw_X4_takeWorkBack (cons_in (P := fun i : aI => cdW i ∈ lw_tbl) cw_X4_keepImage (cons_in (P := fun i : aI => cdW i ∈ lw_tbl) cw_X4_takeImageBack (cons_in (P := fun i : aI => cdW i ∈ lw_tbl) cw_X5_init (cons_in (P := fun i : aI => cdW i ∈ lw_tbl) cw_X5_begin (cons_in (P := fun i : aI => cdW i ∈ lw_tbl) cw_X5_saveIn (cons_in (P := fun i : aI => cdW i ∈ lw_tbl) cw_X5_takeFrom (fun _ h => nomatch h))))))))))))))))))))))))))))))))))))))))))))))))))
set_option maxRecDepth 100000 in
theorem cdw_in1 : ∀ i ∈ aInf1, cdW i ∈ lw_tbl := cons_in (P := fun i : aI => cdW i ∈ lw_tbl) cw_X5_become (cons_in (P := fun i : aI => cdW i ∈ lw_tbl) cw_X5_weekDay (cons_in (P := fun i : aI => cdW i ∈ lw_tbl) cw_X5_rests (cons_in (P := fun i : aI => cdW i ∈ lw_tbl) cw_X5_travellers (cons_in (P := fun i : aI => cdW i ∈ lw_tbl) cw_X5_cartersIn (cons_in (P := fun i : aI => cdW i ∈ lw_tbl) cw_X5_cartersOn (cons_in (P := fun i : aI => cdW i ∈ lw_tbl) cw_X5_tiredTogether (cons_in (P := fun i : aI => cdW i ∈ lw_tbl) cw_X5_paceNow (cons_in (P := fun i : aI => cdW i ∈ lw_tbl) cw_X5_setOut (cons_in (P := fun i : aI => cdW i ∈ lw_tbl) cw_X5_turnRound (cons_in (P := fun i : aI => cdW i ∈ lw_tbl) cw_X5_loadAnew (cons_in (P := fun i : aI => cdW i ∈ lw_tbl) cw_X5_offAnew (cons_in (P := fun i : aI => cdW i ∈ lw_tbl) cw_X5_passHour (cons_in (P := fun i : aI => cdW i ∈ lw_tbl) cw_X5_passOn (cons_in (P := fun i : aI => cdW i ∈ lw_tbl) cw_X5_goOn (cons_in (P := fun i : aI => cdW i ∈ lw_tbl) cw_X5_drawHour (cons_in (P := fun i : aI => cdW i ∈ lw_tbl) cw_X5_draw (cons_in (P := fun i : aI => cdW i ∈ lw_tbl) cw_X6_init (cons_in (P := fun i : aI => cdW i ∈ lw_tbl) cw_X6_readFrom (cons_in (P := fun i : aI => cdW i ∈ lw_tbl) cw_X6_readSteps (cons_in (P := fun i : aI => cdW i ∈ lw_tbl) cw_X6_readStep (cons_in (P := fun i : aI => cdW i ∈ lw_tbl) cw_X6_readTwo (cons_in (P := fun i : aI => cdW i ∈ lw_tbl) cw_X6_readAgain (cons_in (P := fun i : aI => cdW i ∈ lw_tbl) cw_X6_put (cons_in (P := fun i : aI => cdW i ∈ lw_tbl) cw_X6_run (cons_in (P := fun i : aI => cdW i ∈ lw_tbl) cw_X6_behindAgain (cons_in (P := fun i : aI => cdW i ∈ lw_tbl) cw_X6_behindTurn (cons_in (P := fun i : aI => cdW i ∈ lw_tbl) cw_X6_doStep (cons_in (P := fun i : aI => cdW i ∈ lw_tbl) cw_X7_init (cons_in (P := fun i : aI => cdW i ∈ lw_tbl) cw_X7_put (cons_in (P := fun i : aI => cdW i ∈ lw_tbl) cw_X7_open (cons_in (P := fun i : aI => cdW i ∈ lw_tbl) cw_X7_moveTo (cons_in (P := fun i : aI => cdW i ∈ lw_tbl) cw_X7_ends (cons_in (P := fun i : aI => cdW i ∈ lw_tbl) cw_X7_stands (cons_in (P := fun i : aI => cdW i ∈ lw_tbl) cw_X7_digitStands (cons_in (P := fun i : aI => cdW i ∈ lw_tbl) cw_X7_isDigit (cons_in (P := fun i : aI => cdW i ∈ lw_tbl) cw_X7_isLetter (cons_in (P := fun i : aI => cdW i ∈ lw_tbl) cw_X7_takes (cons_in (P := fun i : aI => cdW i ∈ lw_tbl) cw_X7_needs (cons_in (P := fun i : aI => cdW i ∈ lw_tbl) cw_X7_takesWord (cons_in (P := fun i : aI => cdW i ∈ lw_tbl) cw_X7_needsNumber (cons_in (P := fun i : aI => cdW i ∈ lw_tbl) cw_X7_failHere (cons_in (P := fun i : aI => cdW i ∈ lw_tbl) cw_X7_failAtToken (cons_in (P := fun i : aI => cdW i ∈ lw_tbl) cw_X8_init (cons_in (P := fun i : aI => cdW i ∈ lw_tbl) cw_X8_taken (cons_in (P := fun i : aI => cdW i ∈ lw_tbl) cw_X8_measure (cons_in (P := fun i : aI => cdW i ∈ lw_tbl) cw_X8_search (cons_in (P := fun i : aI => cdW i ∈ lw_tbl) cw_X8_nearest (cons_in (P := fun i : aI => cdW i ∈ lw_tbl) cw_X8_leave (cons_in (P := fun i : aI => cdW i ∈ lw_tbl) cw_X8_by (fun _ h => nomatch h))))))))))))))))))))))))))))))))))))))))))))))))))
set_option maxRecDepth 100000 in
theorem cdw_in2 : ∀ i ∈ aInf2, cdW i ∈ lw_tbl := cons_in (P := fun i : aI => cdW i ∈ lw_tbl) cw_X8_trace (cons_in (P := fun i : aI => cdW i ∈ lw_tbl) cw_X8_lastRoad (cons_in (P := fun i : aI => cdW i ∈ lw_tbl) cw_X9_init (cons_in (P := fun i : aI => cdW i ∈ lw_tbl) cw_X9_feed (cons_in (P := fun i : aI => cdW i ∈ lw_tbl) cw_X9_land (cons_in (P := fun i : aI => cdW i ∈ lw_tbl) cw_X9_law (cons_in (P := fun i : aI => cdW i ∈ lw_tbl) cw_X9_work (cons_in (P := fun i : aI => cdW i ∈ lw_tbl) cw_X9_book (cons_in (P := fun i : aI => cdW i ∈ lw_tbl) cw_X9_fault (cons_in (P := fun i : aI => cdW i ∈ lw_tbl) cw_X9_undo (cons_in (P := fun i : aI => cdW i ∈ lw_tbl) cw_X9_told (cons_in (P := fun i : aI => cdW i ∈ lw_tbl) cw_X9_town (cons_in (P := fun i : aI => cdW i ∈ lw_tbl) cw_X9_road (cons_in (P := fun i : aI => cdW i ∈ lw_tbl) cw_X9_carter (cons_in (P := fun i : aI => cdW i ∈ lw_tbl) cw_X9_would (cons_in (P := fun i : aI => cdW i ∈ lw_tbl) cw_X9_lasts (cons_in (P := fun i : aI => cdW i ∈ lw_tbl) cw_X9_soon (cons_in (P := fun i : aI => cdW i ∈ lw_tbl) cw_X9_way (cons_in (P := fun i : aI => cdW i ∈ lw_tbl) cw_X9_latest (cons_in (P := fun i : aI => cdW i ∈ lw_tbl) cw_X9_day (cons_in (P := fun i : aI => cdW i ∈ lw_tbl) cw_X9_farthest (cons_in (P := fun i : aI => cdW i ∈ lw_tbl) cw_X9_joined (cons_in (P := fun i : aI => cdW i ∈ lw_tbl) cw_X9_part (cons_in (P := fun i : aI => cdW i ∈ lw_tbl) cw_X9_mend (cons_in (P := fun i : aI => cdW i ∈ lw_tbl) cw_X9_picnic (cons_in (P := fun i : aI => cdW i ∈ lw_tbl) cw_X9_fits (cons_in (P := fun i : aI => cdW i ∈ lw_tbl) cw_X9_look (cons_in (P := fun i : aI => cdW i ∈ lw_tbl) cw_X9_inn (cons_in (P := fun i : aI => cdW i ∈ lw_tbl) cw_X9_innShare (cons_in (P := fun i : aI => cdW i ∈ lw_tbl) cw_X9_luck (cons_in (P := fun i : aI => cdW i ∈ lw_tbl) cw_X9_power (cons_in (P := fun i : aI => cdW i ∈ lw_tbl) cw_X9_oats (cons_in (P := fun i : aI => cdW i ∈ lw_tbl) cw_X9_given (cons_in (P := fun i : aI => cdW i ∈ lw_tbl) cw_X9_weariest (cons_in (P := fun i : aI => cdW i ∈ lw_tbl) cw_X9_arrives (cons_in (P := fun i : aI => cdW i ∈ lw_tbl) cw_X9_reach (cons_in (P := fun i : aI => cdW i ∈ lw_tbl) cw_X9_year (cons_in (P := fun i : aI => cdW i ∈ lw_tbl) cw_X9_span (cons_in (P := fun i : aI => cdW i ∈ lw_tbl) cw_X9_liveYear (cons_in (P := fun i : aI => cdW i ∈ lw_tbl) cw_X9_image (cons_in (P := fun i : aI => cdW i ∈ lw_tbl) cw_X9_restore (cons_in (P := fun i : aI => cdW i ∈ lw_tbl) cw_X9_status (cons_in (P := fun i : aI => cdW i ∈ lw_tbl) cw_X9_count (cons_in (P := fun i : aI => cdW i ∈ lw_tbl) cw_X9_within (cons_in (P := fun i : aI => cdW i ∈ lw_tbl) cw_X9_require (cons_in (P := fun i : aI => cdW i ∈ lw_tbl) cw_X9_requireWeekDay (cons_in (P := fun i : aI => cdW i ∈ lw_tbl) cw_X9_requireThere (cons_in (P := fun i : aI => cdW i ∈ lw_tbl) cw_X9_requireTown (cons_in (P := fun i : aI => cdW i ∈ lw_tbl) cw_X9_requireRoad (cons_in (P := fun i : aI => cdW i ∈ lw_tbl) cw_X9_requireCarter (fun _ h => nomatch h))))))))))))))))))))))))))))))))))))))))))))))))))
set_option maxRecDepth 100000 in
theorem cdw_in3 : ∀ i ∈ aInf3, cdW i ∈ lw_tbl := cons_in (P := fun i : aI => cdW i ∈ lw_tbl) cw_X9_openText (cons_in (P := fun i : aI => cdW i ∈ lw_tbl) cw_X9_faulty (cons_in (P := fun i : aI => cdW i ∈ lw_tbl) cw_X10_thrown (cons_in (P := fun i : aI => cdW i ∈ lw_tbl) cw_X10_may (cons_in (P := fun i : aI => cdW i ∈ lw_tbl) cw_X10_within (cons_in (P := fun i : aI => cdW i ∈ lw_tbl) cw_X10_init (cons_in (P := fun i : aI => cdW i ∈ lw_tbl) cw_X10_feed (cons_in (P := fun i : aI => cdW i ∈ lw_tbl) cw_X10_fine (cons_in (P := fun i : aI => cdW i ∈ lw_tbl) cw_X10_wrong (cons_in (P := fun i : aI => cdW i ∈ lw_tbl) cw_X10_here (cons_in (P := fun i : aI => cdW i ∈ lw_tbl) cw_X10_isSmall (cons_in (P := fun i : aI => cdW i ∈ lw_tbl) cw_X10_isDigit (cons_in (P := fun i : aI => cdW i ∈ lw_tbl) cw_X10_word (cons_in (P := fun i : aI => cdW i ∈ lw_tbl) cw_X10_of (cons_in (P := fun i : aI => cdW i ∈ lw_tbl) cw_X10_pass (cons_in (P := fun i : aI => cdW i ∈ lw_tbl) cw_X10_readNumber (cons_in (P := fun i : aI => cdW i ∈ lw_tbl) cw_X10_sign (cons_in (P := fun i : aI => cdW i ∈ lw_tbl) cw_X10_isMore (cons_in (P := fun i : aI => cdW i ∈ lw_tbl) cw_X10_begins (cons_in (P := fun i : aI => cdW i ∈ lw_tbl) cw_X10_result (cons_in (P := fun i : aI => cdW i ∈ lw_tbl) cw_X10_fault (cons_in (P := fun i : aI => cdW i ∈ lw_tbl) cw_X10_copies (cons_in (P := fun i : aI => cdW i ∈ lw_tbl) cw_X10_clears (cons_in (P := fun i : aI => cdW i ∈ lw_tbl) cw_X10_sets (cons_in (P := fun i : aI => cdW i ∈ lw_tbl) cw_X10_isRow (cons_in (P := fun i : aI => cdW i ∈ lw_tbl) cw_X10_isFull (cons_in (P := fun i : aI => cdW i ∈ lw_tbl) cw_X10_readTown (cons_in (P := fun i : aI => cdW i ∈ lw_tbl) cw_X10_readRoad (cons_in (P := fun i : aI => cdW i ∈ lw_tbl) cw_X10_readRow (cons_in (P := fun i : aI => cdW i ∈ lw_tbl) cw_X10_land (cons_in (P := fun i : aI => cdW i ∈ lw_tbl) cw_X10_emit (cons_in (P := fun i : aI => cdW i ∈ lw_tbl) cw_X10_opensOne (cons_in (P := fun i : aI => cdW i ∈ lw_tbl) cw_X10_readSum (cons_in (P := fun i : aI => cdW i ∈ lw_tbl) cw_X10_readProduct (cons_in (P := fun i : aI => cdW i ∈ lw_tbl) cw_X10_readTwo (cons_in (P := fun i : aI => cdW i ∈ lw_tbl) cw_X10_factHere (cons_in (P := fun i : aI => cdW i ∈ lw_tbl) cw_X10_readUnit (cons_in (P := fun i : aI => cdW i ∈ lw_tbl) cw_X10_law (cons_in (P := fun i : aI => cdW i ∈ lw_tbl) cw_X10_valueNow (cons_in (P := fun i : aI => cdW i ∈ lw_tbl) cw_X10_both (cons_in (P := fun i : aI => cdW i ∈ lw_tbl) cw_X10_paceNow (cons_in (P := fun i : aI => cdW i ∈ lw_tbl) cw_X10_tellsStep (cons_in (P := fun i : aI => cdW i ∈ lw_tbl) cw_X10_stepOf (cons_in (P := fun i : aI => cdW i ∈ lw_tbl) cw_X10_readAgain (cons_in (P := fun i : aI => cdW i ∈ lw_tbl) cw_X10_readStep (cons_in (P := fun i : aI => cdW i ∈ lw_tbl) cw_X10_work (cons_in (P := fun i : aI => cdW i ∈ lw_tbl) cw_X10_goesSteps (cons_in (P := fun i : aI => cdW i ∈ lw_tbl) cw_X10_take (cons_in (P := fun i : aI => cdW i ∈ lw_tbl) cw_X10_dayOf (cons_in (P := fun i : aI => cdW i ∈ lw_tbl) cw_X10_rests (fun _ h => nomatch h))))))))))))))))))))))))))))))))))))))))))))))))))
set_option maxRecDepth 100000 in
theorem cdw_in4 : ∀ i ∈ aInf4, cdW i ∈ lw_tbl := cons_in (P := fun i : aI => cdW i ∈ lw_tbl) cw_X10_cartersOn (cons_in (P := fun i : aI => cdW i ∈ lw_tbl) cw_X10_ones (cons_in (P := fun i : aI => cdW i ∈ lw_tbl) cw_X10_paceOf (cons_in (P := fun i : aI => cdW i ∈ lw_tbl) cw_X10_paceBy (cons_in (P := fun i : aI => cdW i ∈ lw_tbl) cw_X10_plainOf (cons_in (P := fun i : aI => cdW i ∈ lw_tbl) cw_X10_otherOf (cons_in (P := fun i : aI => cdW i ∈ lw_tbl) cw_X10_goesFrom (cons_in (P := fun i : aI => cdW i ∈ lw_tbl) cw_X10_isSet (cons_in (P := fun i : aI => cdW i ∈ lw_tbl) cw_X10_isTurned (cons_in (P := fun i : aI => cdW i ∈ lw_tbl) cw_X10_dayGoes (cons_in (P := fun i : aI => cdW i ∈ lw_tbl) cw_X10_isDone (cons_in (P := fun i : aI => cdW i ∈ lw_tbl) cw_X10_book (cons_in (P := fun i : aI => cdW i ∈ lw_tbl) cw_X10_undo (cons_in (P := fun i : aI => cdW i ∈ lw_tbl) cw_X10_onRoads (cons_in (P := fun i : aI => cdW i ∈ lw_tbl) cw_X10_resting (cons_in (P := fun i : aI => cdW i ∈ lw_tbl) cw_X10_told (cons_in (P := fun i : aI => cdW i ∈ lw_tbl) cw_X10_isTown (cons_in (P := fun i : aI => cdW i ∈ lw_tbl) cw_X10_isRoad (cons_in (P := fun i : aI => cdW i ∈ lw_tbl) cw_X10_isCarter (cons_in (P := fun i : aI => cdW i ∈ lw_tbl) cw_X10_town (cons_in (P := fun i : aI => cdW i ∈ lw_tbl) cw_X10_road (cons_in (P := fun i : aI => cdW i ∈ lw_tbl) cw_X10_carter (cons_in (P := fun i : aI => cdW i ∈ lw_tbl) cw_X10_would (cons_in (P := fun i : aI => cdW i ∈ lw_tbl) cw_X10_laysPlain (cons_in (P := fun i : aI => cdW i ∈ lw_tbl) cw_X10_takenOf (cons_in (P := fun i : aI => cdW i ∈ lw_tbl) cw_X10_lasts (cons_in (P := fun i : aI => cdW i ∈ lw_tbl) cw_X10_laysSoon (cons_in (P := fun i : aI => cdW i ∈ lw_tbl) cw_X10_soonOf (cons_in (P := fun i : aI => cdW i ∈ lw_tbl) cw_X10_soon (cons_in (P := fun i : aI => cdW i ∈ lw_tbl) cw_X10_lastRoad (cons_in (P := fun i : aI => cdW i ∈ lw_tbl) cw_X10_way (cons_in (P := fun i : aI => cdW i ∈ lw_tbl) cw_X10_latest (cons_in (P := fun i : aI => cdW i ∈ lw_tbl) cw_X10_day (cons_in (P := fun i : aI => cdW i ∈ lw_tbl) cw_X10_farthest (cons_in (P := fun i : aI => cdW i ∈ lw_tbl) cw_X10_reach (cons_in (P := fun i : aI => cdW i ∈ lw_tbl) cw_X10_goingOn (cons_in (P := fun i : aI => cdW i ∈ lw_tbl) cw_X10_cameTo (cons_in (P := fun i : aI => cdW i ∈ lw_tbl) cw_X10_areJoined (cons_in (P := fun i : aI => cdW i ∈ lw_tbl) cw_X10_joinedDays (cons_in (P := fun i : aI => cdW i ∈ lw_tbl) cw_X10_joined (cons_in (P := fun i : aI => cdW i ∈ lw_tbl) cw_X10_part (cons_in (P := fun i : aI => cdW i ∈ lw_tbl) cw_X10_mend (cons_in (P := fun i : aI => cdW i ∈ lw_tbl) cw_X10_picnic (cons_in (P := fun i : aI => cdW i ∈ lw_tbl) cw_X10_milesBy (cons_in (P := fun i : aI => cdW i ∈ lw_tbl) cw_X10_fitBits (cons_in (P := fun i : aI => cdW i ∈ lw_tbl) cw_X10_fits (cons_in (P := fun i : aI => cdW i ∈ lw_tbl) cw_X10_worstOf (cons_in (P := fun i : aI => cdW i ∈ lw_tbl) cw_X10_isWritten (cons_in (P := fun i : aI => cdW i ∈ lw_tbl) cw_X10_look (cons_in (P := fun i : aI => cdW i ∈ lw_tbl) cw_X10_hasBy (fun _ h => nomatch h))))))))))))))))))))))))))))))))))))))))))))))))))
set_option maxRecDepth 100000 in
theorem cdw_in5 : ∀ i ∈ aInf5, cdW i ∈ lw_tbl := cons_in (P := fun i : aI => cdW i ∈ lw_tbl) cw_X10_inn (cons_in (P := fun i : aI => cdW i ∈ lw_tbl) cw_X10_least (cons_in (P := fun i : aI => cdW i ∈ lw_tbl) cw_X10_luck (cons_in (P := fun i : aI => cdW i ∈ lw_tbl) cw_X10_bounded (cons_in (P := fun i : aI => cdW i ∈ lw_tbl) cw_X10_oatsBy (cons_in (P := fun i : aI => cdW i ∈ lw_tbl) cw_X10_oats (cons_in (P := fun i : aI => cdW i ∈ lw_tbl) cw_X10_weariest (cons_in (P := fun i : aI => cdW i ∈ lw_tbl) cw_X10_arrives (cons_in (P := fun i : aI => cdW i ∈ lw_tbl) cw_X10_draws (cons_in (P := fun i : aI => cdW i ∈ lw_tbl) cw_X10_yearGoes (cons_in (P := fun i : aI => cdW i ∈ lw_tbl) cw_X10_isYear (cons_in (P := fun i : aI => cdW i ∈ lw_tbl) cw_X10_year (cons_in (P := fun i : aI => cdW i ∈ lw_tbl) cw_X10_span (cons_in (P := fun i : aI => cdW i ∈ lw_tbl) cw_X10_keepsRow (cons_in (P := fun i : aI => cdW i ∈ lw_tbl) cw_X10_keepsAll (cons_in (P := fun i : aI => cdW i ∈ lw_tbl) cw_X10_image (cons_in (P := fun i : aI => cdW i ∈ lw_tbl) cw_X10_restore (cons_in (P := fun i : aI => cdW i ∈ lw_tbl) cw_X10_status (cons_in (P := fun i : aI => cdW i ∈ lw_tbl) cw_X10_count (cons_in (P := fun i : aI => cdW i ∈ lw_tbl) cw_L_land (cons_in (P := fun i : aI => cdW i ∈ lw_tbl) cw_L_law (cons_in (P := fun i : aI => cdW i ∈ lw_tbl) cw_L_work (cons_in (P := fun i : aI => cdW i ∈ lw_tbl) cw_L_book (cons_in (P := fun i : aI => cdW i ∈ lw_tbl) cw_L_told (cons_in (P := fun i : aI => cdW i ∈ lw_tbl) cw_L_town (cons_in (P := fun i : aI => cdW i ∈ lw_tbl) cw_L_road (cons_in (P := fun i : aI => cdW i ∈ lw_tbl) cw_L_carter (cons_in (P := fun i : aI => cdW i ∈ lw_tbl) cw_L_would (cons_in (P := fun i : aI => cdW i ∈ lw_tbl) cw_L_lasts (cons_in (P := fun i : aI => cdW i ∈ lw_tbl) cw_L_soon (cons_in (P := fun i : aI => cdW i ∈ lw_tbl) cw_L_way (cons_in (P := fun i : aI => cdW i ∈ lw_tbl) cw_L_latest (cons_in (P := fun i : aI => cdW i ∈ lw_tbl) cw_L_day (cons_in (P := fun i : aI => cdW i ∈ lw_tbl) cw_L_farthest (cons_in (P := fun i : aI => cdW i ∈ lw_tbl) cw_L_joined (cons_in (P := fun i : aI => cdW i ∈ lw_tbl) cw_L_part (cons_in (P := fun i : aI => cdW i ∈ lw_tbl) cw_L_mend (cons_in (P := fun i : aI => cdW i ∈ lw_tbl) cw_L_picnic (cons_in (P := fun i : aI => cdW i ∈ lw_tbl) cw_L_fits (cons_in (P := fun i : aI => cdW i ∈ lw_tbl) cw_L_look (cons_in (P := fun i : aI => cdW i ∈ lw_tbl) cw_L_inn (cons_in (P := fun i : aI => cdW i ∈ lw_tbl) cw_L_luck (cons_in (P := fun i : aI => cdW i ∈ lw_tbl) cw_L_oats (cons_in (P := fun i : aI => cdW i ∈ lw_tbl) cw_L_weariest (cons_in (P := fun i : aI => cdW i ∈ lw_tbl) cw_L_arrives (cons_in (P := fun i : aI => cdW i ∈ lw_tbl) cw_L_reach (cons_in (P := fun i : aI => cdW i ∈ lw_tbl) cw_L_year (cons_in (P := fun i : aI => cdW i ∈ lw_tbl) cw_L_span (cons_in (P := fun i : aI => cdW i ∈ lw_tbl) cw_J6_bitCount_0f7a4 (cons_in (P := fun i : aI => cdW i ∈ lw_tbl) cw_J9_max_7cf53 (fun _ h => nomatch h))))))))))))))))))))))))))))))))))))))))))))))))))
set_option maxRecDepth 100000 in
theorem cdw_in6 : ∀ i ∈ aInf6, cdW i ∈ lw_tbl := cons_in (P := fun i : aI => cdW i ∈ lw_tbl) cw_J9_min_7cf53 (cons_in (P := fun i : aI => cdW i ∈ lw_tbl) cw_J7_fill_53178 (fun _ h => nomatch h))
