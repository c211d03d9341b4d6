set_option maxRecDepth 100000 in
set_option maxHeartbeats 4000000 in
theorem wf_X9_openText : wfb cX9_openText 8 false m_X9_openText m_X9_openText.1 = true := by decide +kernel
set_option maxRecDepth 100000 in
set_option maxHeartbeats 4000000 in
theorem wf_X9_faulty : wfb cX9_faulty 8 false m_X9_faulty m_X9_faulty.1 = true := by decide +kernel
set_option maxRecDepth 100000 in
set_option maxHeartbeats 4000000 in
theorem wf_X10_thrown : wfb cX10_thrown 9 false m_X10_thrown m_X10_thrown.1 = true := by decide +kernel
set_option maxRecDepth 100000 in
set_option maxHeartbeats 4000000 in
theorem wf_X10_may : wfb cX10_may 9 false m_X10_may m_X10_may.1 = true := by decide +kernel
set_option maxRecDepth 100000 in
set_option maxHeartbeats 4000000 in
theorem wf_X10_within : wfb cX10_within 9 false m_X10_within m_X10_within.1 = true := by decide +kernel
set_option maxRecDepth 100000 in
set_option maxHeartbeats 4000000 in
theorem wf_X10_init : wfb cX10_init 9 true m_X10_init m_X10_init.1 = true := by decide +kernel
set_option maxRecDepth 100000 in
set_option maxHeartbeats 4000000 in
theorem wf_X10_feed : wfb cX10_feed 9 false m_X10_feed m_X10_feed.1 = true := by decide +kernel
set_option maxRecDepth 100000 in
set_option maxHeartbeats 4000000 in
theorem wf_X10_fine : wfb cX10_fine 9 false m_X10_fine m_X10_fine.1 = true := by decide +kernel
set_option maxRecDepth 100000 in
set_option maxHeartbeats 4000000 in
theorem wf_X10_wrong : wfb cX10_wrong 9 false m_X10_wrong m_X10_wrong.1 = true := by decide +kernel
set_option maxRecDepth 100000 in
set_option maxHeartbeats 4000000 in
theorem wf_X10_here : wfb cX10_here 9 false m_X10_here m_X10_here.1 = true := by decide +kernel
set_option maxRecDepth 100000 in
set_option maxHeartbeats 4000000 in
theorem wf_X10_isSmall : wfb cX10_isSmall 9 false m_X10_isSmall m_X10_isSmall.1 = true := by decide +kernel
set_option maxRecDepth 100000 in
set_option maxHeartbeats 4000000 in
theorem wf_X10_isDigit : wfb cX10_isDigit 9 false m_X10_isDigit m_X10_isDigit.1 = true := by decide +kernel
set_option maxRecDepth 100000 in
set_option maxHeartbeats 4000000 in
theorem wf_X10_word : wfb cX10_word 9 false m_X10_word m_X10_word.1 = true := by decide +kernel
set_option maxRecDepth 100000 in
set_option maxHeartbeats 4000000 in
theorem wf_X10_of : wfb cX10_of 9 false m_X10_of m_X10_of.1 = true := by decide +kernel
set_option maxRecDepth 100000 in
set_option maxHeartbeats 4000000 in
theorem wf_X10_pass : wfb cX10_pass 9 false m_X10_pass m_X10_pass.1 = true := by decide +kernel
set_option maxRecDepth 100000 in
set_option maxHeartbeats 4000000 in
theorem wf_X10_readNumber : wfb cX10_readNumber 9 false m_X10_readNumber m_X10_readNumber.1 = true := by decide +kernel
set_option maxRecDepth 100000 in
set_option maxHeartbeats 4000000 in
theorem wf_X10_sign : wfb cX10_sign 9 false m_X10_sign m_X10_sign.1 = true := by decide +kernel
set_option maxRecDepth 100000 in
set_option maxHeartbeats 4000000 in
theorem wf_X10_isMore : wfb cX10_isMore 9 false m_X10_isMore m_X10_isMore.1 = true := by decide +kernel
set_option maxRecDepth 100000 in
set_option maxHeartbeats 4000000 in
theorem wf_X10_begins : wfb cX10_begins 9 false m_X10_begins m_X10_begins.1 = true := by decide +kernel
set_option maxRecDepth 100000 in
set_option maxHeartbeats 4000000 in
theorem wf_X10_result : wfb cX10_result 9 false m_X10_result m_X10_result.1 = true := by decide +kernel
set_option maxRecDepth 100000 in
set_option maxHeartbeats 4000000 in
theorem wf_X10_fault : wfb cX10_fault 9 false m_X10_fault m_X10_fault.1 = true := by decide +kernel
set_option maxRecDepth 100000 in
set_option maxHeartbeats 4000000 in
theorem wf_X10_copies : wfb cX10_copies 9 false m_X10_copies m_X10_copies.1 = true := by decide +kernel
set_option maxRecDepth 100000 in
set_option maxHeartbeats 4000000 in
theorem wf_X10_clears : wfb cX10_clears 9 false m_X10_clears m_X10_clears.1 = true := by decide +kernel
set_option maxRecDepth 100000 in
set_option maxHeartbeats 4000000 in
theorem wf_X10_sets : wfb cX10_sets 9 false m_X10_sets m_X10_sets.1 = true := by decide +kernel
set_option maxRecDepth 100000 in
set_option maxHeartbeats 4000000 in
theorem wf_X10_isRow : wfb cX10_isRow 9 false m_X10_isRow m_X10_isRow.1 = true := by decide +kernel
set_option maxRecDepth 100000 in
set_option maxHeartbeats 4000000 in
theorem wf_X10_isFull : wfb cX10_isFull 9 false m_X10_isFull m_X10_isFull.1 = true := by decide +kernel
set_option maxRecDepth 100000 in
set_option maxHeartbeats 4000000 in
theorem wf_X10_readTown : wfb cX10_readTown 9 false m_X10_readTown m_X10_readTown.1 = true := by decide +kernel
set_option maxRecDepth 100000 in
set_option maxHeartbeats 4000000 in
theorem wf_X10_readRoad : wfb cX10_readRoad 9 false m_X10_readRoad m_X10_readRoad.1 = true := by decide +kernel
set_option maxRecDepth 100000 in
set_option maxHeartbeats 4000000 in
theorem wf_X10_readRow : wfb cX10_readRow 9 false m_X10_readRow m_X10_readRow.1 = true := by decide +kernel
set_option maxRecDepth 100000 in
set_option maxHeartbeats 4000000 in
theorem wf_X10_land : wfb cX10_land 9 false m_X10_land m_X10_land.1 = true := by decide +kernel
set_option maxRecDepth 100000 in
set_option maxHeartbeats 4000000 in
theorem wf_X10_emit : wfb cX10_emit 9 false m_X10_emit m_X10_emit.1 = true := by decide +kernel
set_option maxRecDepth 100000 in
set_option maxHeartbeats 4000000 in
theorem wf_X10_opensOne : wfb cX10_opensOne 9 false m_X10_opensOne m_X10_opensOne.1 = true := by decide +kernel
set_option maxRecDepth 100000 in
set_option maxHeartbeats 4000000 in
theorem wf_X10_readSum : wfb cX10_readSum 9 false m_X10_readSum m_X10_readSum.1 = true := by decide +kernel
set_option maxRecDepth 100000 in
set_option maxHeartbeats 4000000 in
theorem wf_X10_readProduct : wfb cX10_readProduct 9 false m_X10_readProduct m_X10_readProduct.1 = true := by decide +kernel
set_option maxRecDepth 100000 in
set_option maxHeartbeats 4000000 in
theorem wf_X10_readTwo : wfb cX10_readTwo 9 false m_X10_readTwo m_X10_readTwo.1 = true := by decide +kernel
set_option maxRecDepth 100000 in
set_option maxHeartbeats 4000000 in
theorem wf_X10_factHere : wfb cX10_factHere 9 false m_X10_factHere m_X10_factHere.1 = true := by decide +kernel
set_option maxRecDepth 100000 in
set_option maxHeartbeats 4000000 in
theorem wf_X10_readUnit : wfb cX10_readUnit 9 false m_X10_readUnit m_X10_readUnit.1 = true := by decide +kernel
set_option maxRecDepth 100000 in
set_option maxHeartbeats 4000000 in
theorem wf_X10_law : wfb cX10_law 9 false m_X10_law m_X10_law.1 = true := by decide +kernel
set_option maxRecDepth 100000 in
set_option maxHeartbeats 4000000 in
theorem wf_X10_valueNow : wfb cX10_valueNow 9 false m_X10_valueNow m_X10_valueNow.1 = true := by decide +kernel
set_option maxRecDepth 100000 in
set_option maxHeartbeats 4000000 in
theorem wf_X10_both : wfb cX10_both 9 false m_X10_both m_X10_both.1 = true := by decide +kernel
set_option maxRecDepth 100000 in
set_option maxHeartbeats 4000000 in
theorem wf_X10_paceNow : wfb cX10_paceNow 9 false m_X10_paceNow m_X10_paceNow.1 = true := by decide +kernel
set_option maxRecDepth 100000 in
set_option maxHeartbeats 4000000 in
theorem wf_X10_tellsStep : wfb cX10_tellsStep 9 false m_X10_tellsStep m_X10_tellsStep.1 = true := by decide +kernel
set_option maxRecDepth 100000 in
set_option maxHeartbeats 4000000 in
theorem wf_X10_stepOf : wfb cX10_stepOf 9 false m_X10_stepOf m_X10_stepOf.1 = true := by decide +kernel
set_option maxRecDepth 100000 in
set_option maxHeartbeats 4000000 in
theorem wf_X10_readAgain : wfb cX10_readAgain 9 false m_X10_readAgain m_X10_readAgain.1 = true := by decide +kernel
set_option maxRecDepth 100000 in
set_option maxHeartbeats 4000000 in
theorem wf_X10_readStep : wfb cX10_readStep 9 false m_X10_readStep m_X10_readStep.1 = true := by decide +kernel
set_option maxRecDepth 100000 in
set_option maxHeartbeats 4000000 in
theorem wf_X10_work : wfb cX10_work 9 false m_X10_work m_X10_work.1 = true := by decide +kernel
set_option maxRecDepth 100000 in
set_option maxHeartbeats 4000000 in
theorem wf_X10_goesSteps : wfb cX10_goesSteps 9 false m_X10_goesSteps m_X10_goesSteps.1 = true := by decide +kernel
set_option maxRecDepth 100000 in
set_option maxHeartbeats 4000000 in
theorem wf_X10_take : wfb cX10_take 9 false m_X10_take m_X10_take.1 = true := by decide +kernel
set_option maxRecDepth 100000 in
set_option maxHeartbeats 4000000 in
theorem wf_X10_dayOf : wfb cX10_dayOf 9 false m_X10_dayOf m_X10_dayOf.1 = true := by decide +kernel
set_option maxRecDepth 100000 in
set_option maxHeartbeats 4000000 in
theorem wf_X10_rests : wfb cX10_rests 9 false m_X10_rests m_X10_rests.1 = true := by decide +kernel
set_option maxRecDepth 100000 in
set_option maxHeartbeats 4000000 in
theorem wf_X10_cartersOn : wfb cX10_cartersOn 9 false m_X10_cartersOn m_X10_cartersOn.1 = true := by decide +kernel
set_option maxRecDepth 100000 in
set_option maxHeartbeats 4000000 in
theorem wf_X10_ones : wfb cX10_ones 9 false m_X10_ones m_X10_ones.1 = true := by decide +kernel
set_option maxRecDepth 100000 in
set_option maxHeartbeats 4000000 in
theorem wf_X10_paceOf : wfb cX10_paceOf 9 false m_X10_paceOf m_X10_paceOf.1 = true := by decide +kernel
set_option maxRecDepth 100000 in
set_option maxHeartbeats 4000000 in
theorem wf_X10_paceBy : wfb cX10_paceBy 9 false m_X10_paceBy m_X10_paceBy.1 = true := by decide +kernel
set_option maxRecDepth 100000 in
set_option maxHeartbeats 4000000 in
theorem wf_X10_plainOf : wfb cX10_plainOf 9 false m_X10_plainOf m_X10_plainOf.1 = true := by decide +kernel
set_option maxRecDepth 100000 in
set_option maxHeartbeats 4000000 in
theorem wf_X10_otherOf : wfb cX10_otherOf 9 false m_X10_otherOf m_X10_otherOf.1 = true := by decide +kernel
set_option maxRecDepth 100000 in
set_option maxHeartbeats 4000000 in
theorem wf_X10_goesFrom : wfb cX10_goesFrom 9 false m_X10_goesFrom m_X10_goesFrom.1 = true := by decide +kernel
set_option maxRecDepth 100000 in
set_option maxHeartbeats 4000000 in
theorem wf_X10_isSet : wfb cX10_isSet 9 false m_X10_isSet m_X10_isSet.1 = true := by decide +kernel
set_option maxRecDepth 100000 in
set_option maxHeartbeats 4000000 in
theorem wf_X10_isTurned : wfb cX10_isTurned 9 false m_X10_isTurned m_X10_isTurned.1 = true := by decide +kernel
set_option maxRecDepth 100000 in
set_option maxHeartbeats 4000000 in
theorem wf_X10_dayGoes : wfb cX10_dayGoes 9 false m_X10_dayGoes m_X10_dayGoes.1 = true := by decide +kernel
set_option maxRecDepth 100000 in
set_option maxHeartbeats 4000000 in
theorem wf_X10_isDone : wfb cX10_isDone 9 false m_X10_isDone m_X10_isDone.1 = true := by decide +kernel
set_option maxRecDepth 100000 in
set_option maxHeartbeats 4000000 in
theorem wf_X10_book : wfb cX10_book 9 false m_X10_book m_X10_book.1 = true := by decide +kernel
set_option maxRecDepth 100000 in
set_option maxHeartbeats 4000000 in
theorem wf_X10_undo : wfb cX10_undo 9 false m_X10_undo m_X10_undo.1 = true := by decide +kernel
set_option maxRecDepth 100000 in
set_option maxHeartbeats 4000000 in
theorem wf_X10_onRoads : wfb cX10_onRoads 9 false m_X10_onRoads m_X10_onRoads.1 = true := by decide +kernel
set_option maxRecDepth 100000 in
set_option maxHeartbeats 4000000 in
theorem wf_X10_resting : wfb cX10_resting 9 false m_X10_resting m_X10_resting.1 = true := by decide +kernel
set_option maxRecDepth 100000 in
set_option maxHeartbeats 4000000 in
theorem wf_X10_told : wfb cX10_told 9 false m_X10_told m_X10_told.1 = true := by decide +kernel
set_option maxRecDepth 100000 in
set_option maxHeartbeats 4000000 in
theorem wf_X10_isTown : wfb cX10_isTown 9 false m_X10_isTown m_X10_isTown.1 = true := by decide +kernel
set_option maxRecDepth 100000 in
set_option maxHeartbeats 4000000 in
theorem wf_X10_isRoad : wfb cX10_isRoad 9 false m_X10_isRoad m_X10_isRoad.1 = true := by decide +kernel
set_option maxRecDepth 100000 in
set_option maxHeartbeats 4000000 in
theorem wf_X10_isCarter : wfb cX10_isCarter 9 false m_X10_isCarter m_X10_isCarter.1 = true := by decide +kernel
set_option maxRecDepth 100000 in
set_option maxHeartbeats 4000000 in
theorem wf_X10_town : wfb cX10_town 9 false m_X10_town m_X10_town.1 = true := by decide +kernel
set_option maxRecDepth 100000 in
set_option maxHeartbeats 4000000 in
theorem wf_X10_road : wfb cX10_road 9 false m_X10_road m_X10_road.1 = true := by decide +kernel
set_option maxRecDepth 100000 in
set_option maxHeartbeats 4000000 in
theorem wf_X10_carter : wfb cX10_carter 9 false m_X10_carter m_X10_carter.1 = true := by decide +kernel
set_option maxRecDepth 100000 in
set_option maxHeartbeats 4000000 in
theorem wf_X10_would : wfb cX10_would 9 false m_X10_would m_X10_would.1 = true := by decide +kernel
set_option maxRecDepth 100000 in
set_option maxHeartbeats 4000000 in
theorem wf_X10_laysPlain : wfb cX10_laysPlain 9 false m_X10_laysPlain m_X10_laysPlain.1 = true := by decide +kernel
set_option maxRecDepth 100000 in
set_option maxHeartbeats 4000000 in
theorem wf_X10_takenOf : wfb cX10_takenOf 9 false m_X10_takenOf m_X10_takenOf.1 = true := by decide +kernel
set_option maxRecDepth 100000 in
set_option maxHeartbeats 4000000 in
theorem wf_X10_lasts : wfb cX10_lasts 9 false m_X10_lasts m_X10_lasts.1 = true := by decide +kernel
set_option maxRecDepth 100000 in
set_option maxHeartbeats 4000000 in
theorem wf_X10_laysSoon : wfb cX10_laysSoon 9 false m_X10_laysSoon m_X10_laysSoon.1 = true := by decide +kernel
set_option maxRecDepth 100000 in
set_option maxHeartbeats 4000000 in
theorem wf_X10_soonOf : wfb cX10_soonOf 9 false m_X10_soonOf m_X10_soonOf.1 = true := by decide +kernel
set_option maxRecDepth 100000 in
set_option maxHeartbeats 4000000 in
theorem wf_X10_soon : wfb cX10_soon 9 false m_X10_soon m_X10_soon.1 = true := by decide +kernel
set_option maxRecDepth 100000 in
set_option maxHeartbeats 4000000 in
theorem wf_X10_lastRoad : wfb cX10_lastRoad 9 false m_X10_lastRoad m_X10_lastRoad.1 = true := by decide +kernel
set_option maxRecDepth 100000 in
set_option maxHeartbeats 4000000 in
theorem wf_X10_way : wfb cX10_way 9 false m_X10_way m_X10_way.1 = true := by decide +kernel
set_option maxRecDepth 100000 in
set_option maxHeartbeats 4000000 in
theorem wf_X10_latest : wfb cX10_latest 9 false m_X10_latest m_X10_latest.1 = true := by decide +kernel
set_option maxRecDepth 100000 in
set_option maxHeartbeats 4000000 in
theorem wf_X10_day : wfb cX10_day 9 false m_X10_day m_X10_day.1 = true := by decide +kernel
set_option maxRecDepth 100000 in
set_option maxHeartbeats 4000000 in
theorem wf_X10_farthest : wfb cX10_farthest 9 false m_X10_farthest m_X10_farthest.1 = true := by decide +kernel
set_option maxRecDepth 100000 in
set_option maxHeartbeats 4000000 in
theorem wf_X10_reach : wfb cX10_reach 9 false m_X10_reach m_X10_reach.1 = true := by decide +kernel
set_option maxRecDepth 100000 in
set_option maxHeartbeats 4000000 in
theorem wf_X10_goingOn : wfb cX10_goingOn 9 false m_X10_goingOn m_X10_goingOn.1 = true := by decide +kernel
set_option maxRecDepth 100000 in
set_option maxHeartbeats 4000000 in
theorem wf_X10_cameTo : wfb cX10_cameTo 9 false m_X10_cameTo m_X10_cameTo.1 = true := by decide +kernel
set_option maxRecDepth 100000 in
set_option maxHeartbeats 4000000 in
theorem wf_X10_areJoined : wfb cX10_areJoined 9 false m_X10_areJoined m_X10_areJoined.1 = true := by decide +kernel
set_option maxRecDepth 100000 in
set_option maxHeartbeats 4000000 in
theorem wf_X10_joinedDays : wfb cX10_joinedDays 9 false m_X10_joinedDays m_X10_joinedDays.1 = true := by decide +kernel
set_option maxRecDepth 100000 in
set_option maxHeartbeats 4000000 in
theorem wf_X10_joined : wfb cX10_joined 9 false m_X10_joined m_X10_joined.1 = true := by decide +kernel
set_option maxRecDepth 100000 in
set_option maxHeartbeats 4000000 in
theorem wf_X10_part : wfb cX10_part 9 false m_X10_part m_X10_part.1 = true := by decide +kernel
set_option maxRecDepth 100000 in
set_option maxHeartbeats 4000000 in
theorem wf_X10_mend : wfb cX10_mend 9 false m_X10_mend m_X10_mend.1 = true := by decide +kernel
set_option maxRecDepth 100000 in
set_option maxHeartbeats 4000000 in
theorem wf_X10_picnic : wfb cX10_picnic 9 false m_X10_picnic m_X10_picnic.1 = true := by decide +kernel
set_option maxRecDepth 100000 in
set_option maxHeartbeats 4000000 in
theorem wf_X10_milesBy : wfb cX10_milesBy 9 false m_X10_milesBy m_X10_milesBy.1 = true := by decide +kernel
set_option maxRecDepth 100000 in
set_option maxHeartbeats 4000000 in
theorem wf_X10_fitBits : wfb cX10_fitBits 9 false m_X10_fitBits m_X10_fitBits.1 = true := by decide +kernel
set_option maxRecDepth 100000 in
set_option maxHeartbeats 4000000 in
theorem wf_X10_fits : wfb cX10_fits 9 false m_X10_fits m_X10_fits.1 = true := by decide +kernel
set_option maxRecDepth 100000 in
set_option maxHeartbeats 4000000 in
theorem wf_X10_worstOf : wfb cX10_worstOf 9 false m_X10_worstOf m_X10_worstOf.1 = true := by decide +kernel
set_option maxRecDepth 100000 in
set_option maxHeartbeats 4000000 in
theorem wf_X10_isWritten : wfb cX10_isWritten 9 false m_X10_isWritten m_X10_isWritten.1 = true := by decide +kernel
set_option maxRecDepth 100000 in
set_option maxHeartbeats 4000000 in
theorem wf_X10_look : wfb cX10_look 9 false m_X10_look m_X10_look.1 = true := by decide +kernel
set_option maxRecDepth 100000 in
set_option maxHeartbeats 4000000 in
theorem wf_X10_hasBy : wfb cX10_hasBy 9 false m_X10_hasBy m_X10_hasBy.1 = true := by decide +kernel
