set_option maxRecDepth 100000 in
set_option maxHeartbeats 4000000 in
theorem wf_X0_init : wfb cX0_init 0 true m_X0_init m_X0_init.1 = true := by decide +kernel
set_option maxRecDepth 100000 in
set_option maxHeartbeats 4000000 in
theorem wf_X0_begin : wfb cX0_begin 0 false m_X0_begin m_X0_begin.1 = true := by decide +kernel
set_option maxRecDepth 100000 in
set_option maxHeartbeats 4000000 in
theorem wf_X0_readFrom : wfb cX0_readFrom 0 false m_X0_readFrom m_X0_readFrom.1 = true := by decide +kernel
set_option maxRecDepth 100000 in
set_option maxHeartbeats 4000000 in
theorem wf_X0_readLine : wfb cX0_readLine 0 false m_X0_readLine m_X0_readLine.1 = true := by decide +kernel
set_option maxRecDepth 100000 in
set_option maxHeartbeats 4000000 in
theorem wf_X0_isTold : wfb cX0_isTold 0 false m_X0_isTold m_X0_isTold.1 = true := by decide +kernel
set_option maxRecDepth 100000 in
set_option maxHeartbeats 4000000 in
theorem wf_X0_dayLater : wfb cX0_dayLater 0 false m_X0_dayLater m_X0_dayLater.1 = true := by decide +kernel
set_option maxRecDepth 100000 in
set_option maxHeartbeats 4000000 in
theorem wf_X0_fitting : wfb cX0_fitting 0 false m_X0_fitting m_X0_fitting.1 = true := by decide +kernel
set_option maxRecDepth 100000 in
set_option maxHeartbeats 4000000 in
theorem wf_X0_lookFor : wfb cX0_lookFor 0 false m_X0_lookFor m_X0_lookFor.1 = true := by decide +kernel
set_option maxRecDepth 100000 in
set_option maxHeartbeats 4000000 in
theorem wf_X0_mostAlike : wfb cX0_mostAlike 0 false m_X0_mostAlike m_X0_mostAlike.1 = true := by decide +kernel
set_option maxRecDepth 100000 in
set_option maxHeartbeats 4000000 in
theorem wf_X1_resting : wfb cX1_resting 10 false m_X1_resting m_X1_resting.1 = true := by decide +kernel
set_option maxRecDepth 100000 in
set_option maxHeartbeats 4000000 in
theorem wf_X1_going : wfb cX1_going 10 false m_X1_going m_X1_going.1 = true := by decide +kernel
set_option maxRecDepth 100000 in
set_option maxHeartbeats 4000000 in
theorem wf_X1_joins : wfb cX1_joins 10 false m_X1_joins m_X1_joins.1 = true := by decide +kernel
set_option maxRecDepth 100000 in
set_option maxHeartbeats 4000000 in
theorem wf_X1_joinedDays : wfb cX1_joinedDays 10 false m_X1_joinedDays m_X1_joinedDays.1 = true := by decide +kernel
set_option maxRecDepth 100000 in
set_option maxHeartbeats 4000000 in
theorem wf_X1_daysIfChanged : wfb cX1_daysIfChanged 10 false m_X1_daysIfChanged m_X1_daysIfChanged.1 = true := by decide +kernel
set_option maxRecDepth 100000 in
set_option maxHeartbeats 4000000 in
theorem wf_X1_fewestCut : wfb cX1_fewestCut 10 false m_X1_fewestCut m_X1_fewestCut.1 = true := by decide +kernel
set_option maxRecDepth 100000 in
set_option maxHeartbeats 4000000 in
theorem wf_X1_mostApart : wfb cX1_mostApart 10 false m_X1_mostApart m_X1_mostApart.1 = true := by decide +kernel
set_option maxRecDepth 100000 in
set_option maxHeartbeats 4000000 in
theorem wf_X1_mostApartFrom : wfb cX1_mostApartFrom 10 false m_X1_mostApartFrom m_X1_mostApartFrom.1 = true := by decide +kernel
set_option maxRecDepth 100000 in
set_option maxHeartbeats 4000000 in
theorem wf_X2_init : wfb cX2_init 1 true m_X2_init m_X2_init.1 = true := by decide +kernel
set_option maxRecDepth 100000 in
set_option maxHeartbeats 4000000 in
theorem wf_X2_readFrom : wfb cX2_readFrom 1 false m_X2_readFrom m_X2_readFrom.1 = true := by decide +kernel
set_option maxRecDepth 100000 in
set_option maxHeartbeats 4000000 in
theorem wf_X2_readClause : wfb cX2_readClause 1 false m_X2_readClause m_X2_readClause.1 = true := by decide +kernel
set_option maxRecDepth 100000 in
set_option maxHeartbeats 4000000 in
theorem wf_X2_addTown : wfb cX2_addTown 1 false m_X2_addTown m_X2_addTown.1 = true := by decide +kernel
set_option maxRecDepth 100000 in
set_option maxHeartbeats 4000000 in
theorem wf_X2_addRoad : wfb cX2_addRoad 1 false m_X2_addRoad m_X2_addRoad.1 = true := by decide +kernel
set_option maxRecDepth 100000 in
set_option maxHeartbeats 4000000 in
theorem wf_X2_addCarter : wfb cX2_addCarter 1 false m_X2_addCarter m_X2_addCarter.1 = true := by decide +kernel
set_option maxRecDepth 100000 in
set_option maxHeartbeats 4000000 in
theorem wf_X2_touches : wfb cX2_touches 1 false m_X2_touches m_X2_touches.1 = true := by decide +kernel
set_option maxRecDepth 100000 in
set_option maxHeartbeats 4000000 in
theorem wf_X2_acrossFrom : wfb cX2_acrossFrom 1 false m_X2_acrossFrom m_X2_acrossFrom.1 = true := by decide +kernel
set_option maxRecDepth 100000 in
set_option maxHeartbeats 4000000 in
theorem wf_X2_endsAsBits : wfb cX2_endsAsBits 1 false m_X2_endsAsBits m_X2_endsAsBits.1 = true := by decide +kernel
set_option maxRecDepth 100000 in
set_option maxHeartbeats 4000000 in
theorem wf_X2_roadsFrom : wfb cX2_roadsFrom 1 false m_X2_roadsFrom m_X2_roadsFrom.1 = true := by decide +kernel
set_option maxRecDepth 100000 in
set_option maxHeartbeats 4000000 in
theorem wf_X3_init : wfb cX3_init 2 true m_X3_init m_X3_init.1 = true := by decide +kernel
set_option maxRecDepth 100000 in
set_option maxHeartbeats 4000000 in
theorem wf_X3_begin : wfb cX3_begin 2 false m_X3_begin m_X3_begin.1 = true := by decide +kernel
set_option maxRecDepth 100000 in
set_option maxHeartbeats 4000000 in
theorem wf_X3_readFrom : wfb cX3_readFrom 2 false m_X3_readFrom m_X3_readFrom.1 = true := by decide +kernel
set_option maxRecDepth 100000 in
set_option maxHeartbeats 4000000 in
theorem wf_X3_put : wfb cX3_put 2 false m_X3_put m_X3_put.1 = true := by decide +kernel
set_option maxRecDepth 100000 in
set_option maxHeartbeats 4000000 in
theorem wf_X3_readSum : wfb cX3_readSum 2 false m_X3_readSum m_X3_readSum.1 = true := by decide +kernel
set_option maxRecDepth 100000 in
set_option maxHeartbeats 4000000 in
theorem wf_X3_readProduct : wfb cX3_readProduct 2 false m_X3_readProduct m_X3_readProduct.1 = true := by decide +kernel
set_option maxRecDepth 100000 in
set_option maxHeartbeats 4000000 in
theorem wf_X3_readUnit : wfb cX3_readUnit 2 false m_X3_readUnit m_X3_readUnit.1 = true := by decide +kernel
set_option maxRecDepth 100000 in
set_option maxHeartbeats 4000000 in
theorem wf_X3_opens : wfb cX3_opens 2 false m_X3_opens m_X3_opens.1 = true := by decide +kernel
set_option maxRecDepth 100000 in
set_option maxHeartbeats 4000000 in
theorem wf_X3_readTwo : wfb cX3_readTwo 2 false m_X3_readTwo m_X3_readTwo.1 = true := by decide +kernel
set_option maxRecDepth 100000 in
set_option maxHeartbeats 4000000 in
theorem wf_X3_readGiven : wfb cX3_readGiven 2 false m_X3_readGiven m_X3_readGiven.1 = true := by decide +kernel
set_option maxRecDepth 100000 in
set_option maxHeartbeats 4000000 in
theorem wf_X3_pace : wfb cX3_pace 2 false m_X3_pace m_X3_pace.1 = true := by decide +kernel
set_option maxRecDepth 100000 in
set_option maxHeartbeats 4000000 in
theorem wf_X3_outOf : wfb cX3_outOf 2 false m_X3_outOf m_X3_outOf.1 = true := by decide +kernel
set_option maxRecDepth 100000 in
set_option maxHeartbeats 4000000 in
theorem wf_X3_plainPace : wfb cX3_plainPace 2 false m_X3_plainPace m_X3_plainPace.1 = true := by decide +kernel
set_option maxRecDepth 100000 in
set_option maxHeartbeats 4000000 in
theorem wf_X4_init : wfb cX4_init 3 true m_X4_init m_X4_init.1 = true := by decide +kernel
set_option maxRecDepth 100000 in
set_option maxHeartbeats 4000000 in
theorem wf_X4_begin : wfb cX4_begin 3 false m_X4_begin m_X4_begin.1 = true := by decide +kernel
set_option maxRecDepth 100000 in
set_option maxHeartbeats 4000000 in
theorem wf_X4_keepWork : wfb cX4_keepWork 3 false m_X4_keepWork m_X4_keepWork.1 = true := by decide +kernel
set_option maxRecDepth 100000 in
set_option maxHeartbeats 4000000 in
theorem wf_X4_takeWorkBack : wfb cX4_takeWorkBack 3 false m_X4_takeWorkBack m_X4_takeWorkBack.1 = true := by decide +kernel
set_option maxRecDepth 100000 in
set_option maxHeartbeats 4000000 in
theorem wf_X4_keepImage : wfb cX4_keepImage 3 false m_X4_keepImage m_X4_keepImage.1 = true := by decide +kernel
set_option maxRecDepth 100000 in
set_option maxHeartbeats 4000000 in
theorem wf_X4_takeImageBack : wfb cX4_takeImageBack 3 false m_X4_takeImageBack m_X4_takeImageBack.1 = true := by decide +kernel
set_option maxRecDepth 100000 in
set_option maxHeartbeats 4000000 in
theorem wf_X5_init : wfb cX5_init 4 true m_X5_init m_X5_init.1 = true := by decide +kernel
set_option maxRecDepth 100000 in
set_option maxHeartbeats 4000000 in
theorem wf_X5_begin : wfb cX5_begin 4 false m_X5_begin m_X5_begin.1 = true := by decide +kernel
set_option maxRecDepth 100000 in
set_option maxHeartbeats 4000000 in
theorem wf_X5_saveIn : wfb cX5_saveIn 4 false m_X5_saveIn m_X5_saveIn.1 = true := by decide +kernel
set_option maxRecDepth 100000 in
set_option maxHeartbeats 4000000 in
theorem wf_X5_takeFrom : wfb cX5_takeFrom 4 false m_X5_takeFrom m_X5_takeFrom.1 = true := by decide +kernel
set_option maxRecDepth 100000 in
set_option maxHeartbeats 4000000 in
theorem wf_X5_become : wfb cX5_become 4 false m_X5_become m_X5_become.1 = true := by decide +kernel
set_option maxRecDepth 100000 in
set_option maxHeartbeats 4000000 in
theorem wf_X5_weekDay : wfb cX5_weekDay 4 false m_X5_weekDay m_X5_weekDay.1 = true := by decide +kernel
set_option maxRecDepth 100000 in
set_option maxHeartbeats 4000000 in
theorem wf_X5_rests : wfb cX5_rests 4 false m_X5_rests m_X5_rests.1 = true := by decide +kernel
set_option maxRecDepth 100000 in
set_option maxHeartbeats 4000000 in
theorem wf_X5_travellers : wfb cX5_travellers 4 false m_X5_travellers m_X5_travellers.1 = true := by decide +kernel
set_option maxRecDepth 100000 in
set_option maxHeartbeats 4000000 in
theorem wf_X5_cartersIn : wfb cX5_cartersIn 4 false m_X5_cartersIn m_X5_cartersIn.1 = true := by decide +kernel
set_option maxRecDepth 100000 in
set_option maxHeartbeats 4000000 in
theorem wf_X5_cartersOn : wfb cX5_cartersOn 4 false m_X5_cartersOn m_X5_cartersOn.1 = true := by decide +kernel
set_option maxRecDepth 100000 in
set_option maxHeartbeats 4000000 in
theorem wf_X5_tiredTogether : wfb cX5_tiredTogether 4 false m_X5_tiredTogether m_X5_tiredTogether.1 = true := by decide +kernel
set_option maxRecDepth 100000 in
set_option maxHeartbeats 4000000 in
theorem wf_X5_paceNow : wfb cX5_paceNow 4 false m_X5_paceNow m_X5_paceNow.1 = true := by decide +kernel
set_option maxRecDepth 100000 in
set_option maxHeartbeats 4000000 in
theorem wf_X5_setOut : wfb cX5_setOut 4 false m_X5_setOut m_X5_setOut.1 = true := by decide +kernel
set_option maxRecDepth 100000 in
set_option maxHeartbeats 4000000 in
theorem wf_X5_turnRound : wfb cX5_turnRound 4 false m_X5_turnRound m_X5_turnRound.1 = true := by decide +kernel
set_option maxRecDepth 100000 in
set_option maxHeartbeats 4000000 in
theorem wf_X5_loadAnew : wfb cX5_loadAnew 4 false m_X5_loadAnew m_X5_loadAnew.1 = true := by decide +kernel
set_option maxRecDepth 100000 in
set_option maxHeartbeats 4000000 in
theorem wf_X5_offAnew : wfb cX5_offAnew 4 false m_X5_offAnew m_X5_offAnew.1 = true := by decide +kernel
set_option maxRecDepth 100000 in
set_option maxHeartbeats 4000000 in
theorem wf_X5_passHour : wfb cX5_passHour 4 false m_X5_passHour m_X5_passHour.1 = true := by decide +kernel
set_option maxRecDepth 100000 in
set_option maxHeartbeats 4000000 in
theorem wf_X5_passOn : wfb cX5_passOn 4 false m_X5_passOn m_X5_passOn.1 = true := by decide +kernel
set_option maxRecDepth 100000 in
set_option maxHeartbeats 4000000 in
theorem wf_X5_goOn : wfb cX5_goOn 4 false m_X5_goOn m_X5_goOn.1 = true := by decide +kernel
set_option maxRecDepth 100000 in
set_option maxHeartbeats 4000000 in
theorem wf_X5_drawHour : wfb cX5_drawHour 4 false m_X5_drawHour m_X5_drawHour.1 = true := by decide +kernel
set_option maxRecDepth 100000 in
set_option maxHeartbeats 4000000 in
theorem wf_X5_draw : wfb cX5_draw 4 false m_X5_draw m_X5_draw.1 = true := by decide +kernel
set_option maxRecDepth 100000 in
set_option maxHeartbeats 4000000 in
theorem wf_X6_init : wfb cX6_init 5 true m_X6_init m_X6_init.1 = true := by decide +kernel
set_option maxRecDepth 100000 in
set_option maxHeartbeats 4000000 in
theorem wf_X6_readFrom : wfb cX6_readFrom 5 false m_X6_readFrom m_X6_readFrom.1 = true := by decide +kernel
set_option maxRecDepth 100000 in
set_option maxHeartbeats 4000000 in
theorem wf_X6_readSteps : wfb cX6_readSteps 5 false m_X6_readSteps m_X6_readSteps.1 = true := by decide +kernel
set_option maxRecDepth 100000 in
set_option maxHeartbeats 4000000 in
theorem wf_X6_readStep : wfb cX6_readStep 5 false m_X6_readStep m_X6_readStep.1 = true := by decide +kernel
set_option maxRecDepth 100000 in
set_option maxHeartbeats 4000000 in
theorem wf_X6_readTwo : wfb cX6_readTwo 5 false m_X6_readTwo m_X6_readTwo.1 = true := by decide +kernel
set_option maxRecDepth 100000 in
set_option maxHeartbeats 4000000 in
theorem wf_X6_readAgain : wfb cX6_readAgain 5 false m_X6_readAgain m_X6_readAgain.1 = true := by decide +kernel
set_option maxRecDepth 100000 in
set_option maxHeartbeats 4000000 in
theorem wf_X6_put : wfb cX6_put 5 false m_X6_put m_X6_put.1 = true := by decide +kernel
set_option maxRecDepth 100000 in
set_option maxHeartbeats 4000000 in
theorem wf_X6_run : wfb cX6_run 5 false m_X6_run m_X6_run.1 = true := by decide +kernel
set_option maxRecDepth 100000 in
set_option maxHeartbeats 4000000 in
theorem wf_X6_behindAgain : wfb cX6_behindAgain 5 false m_X6_behindAgain m_X6_behindAgain.1 = true := by decide +kernel
set_option maxRecDepth 100000 in
set_option maxHeartbeats 4000000 in
theorem wf_X6_behindTurn : wfb cX6_behindTurn 5 false m_X6_behindTurn m_X6_behindTurn.1 = true := by decide +kernel
set_option maxRecDepth 100000 in
set_option maxHeartbeats 4000000 in
theorem wf_X6_doStep : wfb cX6_doStep 5 false m_X6_doStep m_X6_doStep.1 = true := by decide +kernel
set_option maxRecDepth 100000 in
set_option maxHeartbeats 4000000 in
theorem wf_X7_init : wfb cX7_init 6 true m_X7_init m_X7_init.1 = true := by decide +kernel
set_option maxRecDepth 100000 in
set_option maxHeartbeats 4000000 in
theorem wf_X7_put : wfb cX7_put 6 false m_X7_put m_X7_put.1 = true := by decide +kernel
set_option maxRecDepth 100000 in
set_option maxHeartbeats 4000000 in
theorem wf_X7_open : wfb cX7_open 6 false m_X7_open m_X7_open.1 = true := by decide +kernel
set_option maxRecDepth 100000 in
set_option maxHeartbeats 4000000 in
theorem wf_X7_moveTo : wfb cX7_moveTo 6 false m_X7_moveTo m_X7_moveTo.1 = true := by decide +kernel
set_option maxRecDepth 100000 in
set_option maxHeartbeats 4000000 in
theorem wf_X7_ends : wfb cX7_ends 6 false m_X7_ends m_X7_ends.1 = true := by decide +kernel
set_option maxRecDepth 100000 in
set_option maxHeartbeats 4000000 in
theorem wf_X7_stands : wfb cX7_stands 6 false m_X7_stands m_X7_stands.1 = true := by decide +kernel
set_option maxRecDepth 100000 in
set_option maxHeartbeats 4000000 in
theorem wf_X7_digitStands : wfb cX7_digitStands 6 false m_X7_digitStands m_X7_digitStands.1 = true := by decide +kernel
set_option maxRecDepth 100000 in
set_option maxHeartbeats 4000000 in
theorem wf_X7_isDigit : wfb cX7_isDigit 6 false m_X7_isDigit m_X7_isDigit.1 = true := by decide +kernel
set_option maxRecDepth 100000 in
set_option maxHeartbeats 4000000 in
theorem wf_X7_isLetter : wfb cX7_isLetter 6 false m_X7_isLetter m_X7_isLetter.1 = true := by decide +kernel
set_option maxRecDepth 100000 in
set_option maxHeartbeats 4000000 in
theorem wf_X7_takes : wfb cX7_takes 6 false m_X7_takes m_X7_takes.1 = true := by decide +kernel
set_option maxRecDepth 100000 in
set_option maxHeartbeats 4000000 in
theorem wf_X7_needs : wfb cX7_needs 6 false m_X7_needs m_X7_needs.1 = true := by decide +kernel
set_option maxRecDepth 100000 in
set_option maxHeartbeats 4000000 in
theorem wf_X7_takesWord : wfb cX7_takesWord 6 false m_X7_takesWord m_X7_takesWord.1 = true := by decide +kernel
set_option maxRecDepth 100000 in
set_option maxHeartbeats 4000000 in
theorem wf_X7_needsNumber : wfb cX7_needsNumber 6 false m_X7_needsNumber m_X7_needsNumber.1 = true := by decide +kernel
set_option maxRecDepth 100000 in
set_option maxHeartbeats 4000000 in
theorem wf_X7_failHere : wfb cX7_failHere 6 false m_X7_failHere m_X7_failHere.1 = true := by decide +kernel
set_option maxRecDepth 100000 in
set_option maxHeartbeats 4000000 in
theorem wf_X7_failAtToken : wfb cX7_failAtToken 6 false m_X7_failAtToken m_X7_failAtToken.1 = true := by decide +kernel
set_option maxRecDepth 100000 in
set_option maxHeartbeats 4000000 in
theorem wf_X8_init : wfb cX8_init 7 true m_X8_init m_X8_init.1 = true := by decide +kernel
set_option maxRecDepth 100000 in
set_option maxHeartbeats 4000000 in
theorem wf_X8_taken : wfb cX8_taken 7 false m_X8_taken m_X8_taken.1 = true := by decide +kernel
set_option maxRecDepth 100000 in
set_option maxHeartbeats 4000000 in
theorem wf_X8_measure : wfb cX8_measure 7 false m_X8_measure m_X8_measure.1 = true := by decide +kernel
set_option maxRecDepth 100000 in
set_option maxHeartbeats 4000000 in
theorem wf_X8_search : wfb cX8_search 7 false m_X8_search m_X8_search.1 = true := by decide +kernel
set_option maxRecDepth 100000 in
set_option maxHeartbeats 4000000 in
theorem wf_X8_nearest : wfb cX8_nearest 7 false m_X8_nearest m_X8_nearest.1 = true := by decide +kernel
set_option maxRecDepth 100000 in
set_option maxHeartbeats 4000000 in
theorem wf_X8_leave : wfb cX8_leave 7 false m_X8_leave m_X8_leave.1 = true := by decide +kernel
set_option maxRecDepth 100000 in
set_option maxHeartbeats 4000000 in
theorem wf_X8_by : wfb cX8_by 7 false m_X8_by m_X8_by.1 = true := by decide +kernel
set_option maxRecDepth 100000 in
set_option maxHeartbeats 4000000 in
theorem wf_X8_trace : wfb cX8_trace 7 false m_X8_trace m_X8_trace.1 = true := by decide +kernel
set_option maxRecDepth 100000 in
set_option maxHeartbeats 4000000 in
theorem wf_X8_lastRoad : wfb cX8_lastRoad 7 false m_X8_lastRoad m_X8_lastRoad.1 = true := by decide +kernel
set_option maxRecDepth 100000 in
set_option maxHeartbeats 4000000 in
theorem wf_X9_init : wfb cX9_init 8 true m_X9_init m_X9_init.1 = true := by decide +kernel
set_option maxRecDepth 100000 in
set_option maxHeartbeats 4000000 in
theorem wf_X9_feed : wfb cX9_feed 8 false m_X9_feed m_X9_feed.1 = true := by decide +kernel
set_option maxRecDepth 100000 in
set_option maxHeartbeats 4000000 in
theorem wf_X9_land : wfb cX9_land 8 false m_X9_land m_X9_land.1 = true := by decide +kernel
set_option maxRecDepth 100000 in
set_option maxHeartbeats 4000000 in
theorem wf_X9_law : wfb cX9_law 8 false m_X9_law m_X9_law.1 = true := by decide +kernel
set_option maxRecDepth 100000 in
set_option maxHeartbeats 4000000 in
theorem wf_X9_work : wfb cX9_work 8 false m_X9_work m_X9_work.1 = true := by decide +kernel
set_option maxRecDepth 100000 in
set_option maxHeartbeats 4000000 in
theorem wf_X9_book : wfb cX9_book 8 false m_X9_book m_X9_book.1 = true := by decide +kernel
set_option maxRecDepth 100000 in
set_option maxHeartbeats 4000000 in
theorem wf_X9_fault : wfb cX9_fault 8 false m_X9_fault m_X9_fault.1 = true := by decide +kernel
set_option maxRecDepth 100000 in
set_option maxHeartbeats 4000000 in
theorem wf_X9_undo : wfb cX9_undo 8 false m_X9_undo m_X9_undo.1 = true := by decide +kernel
set_option maxRecDepth 100000 in
set_option maxHeartbeats 4000000 in
theorem wf_X9_told : wfb cX9_told 8 false m_X9_told m_X9_told.1 = true := by decide +kernel
set_option maxRecDepth 100000 in
set_option maxHeartbeats 4000000 in
theorem wf_X9_town : wfb cX9_town 8 false m_X9_town m_X9_town.1 = true := by decide +kernel
set_option maxRecDepth 100000 in
set_option maxHeartbeats 4000000 in
theorem wf_X9_road : wfb cX9_road 8 false m_X9_road m_X9_road.1 = true := by decide +kernel
set_option maxRecDepth 100000 in
set_option maxHeartbeats 4000000 in
theorem wf_X9_carter : wfb cX9_carter 8 false m_X9_carter m_X9_carter.1 = true := by decide +kernel
set_option maxRecDepth 100000 in
set_option maxHeartbeats 4000000 in
theorem wf_X9_would : wfb cX9_would 8 false m_X9_would m_X9_would.1 = true := by decide +kernel
set_option maxRecDepth 100000 in
set_option maxHeartbeats 4000000 in
theorem wf_X9_lasts : wfb cX9_lasts 8 false m_X9_lasts m_X9_lasts.1 = true := by decide +kernel
set_option maxRecDepth 100000 in
set_option maxHeartbeats 4000000 in
theorem wf_X9_soon : wfb cX9_soon 8 false m_X9_soon m_X9_soon.1 = true := by decide +kernel
set_option maxRecDepth 100000 in
set_option maxHeartbeats 4000000 in
theorem wf_X9_way : wfb cX9_way 8 false m_X9_way m_X9_way.1 = true := by decide +kernel
set_option maxRecDepth 100000 in
set_option maxHeartbeats 4000000 in
theorem wf_X9_latest : wfb cX9_latest 8 false m_X9_latest m_X9_latest.1 = true := by decide +kernel
set_option maxRecDepth 100000 in
set_option maxHeartbeats 4000000 in
theorem wf_X9_day : wfb cX9_day 8 false m_X9_day m_X9_day.1 = true := by decide +kernel
set_option maxRecDepth 100000 in
set_option maxHeartbeats 4000000 in
theorem wf_X9_farthest : wfb cX9_farthest 8 false m_X9_farthest m_X9_farthest.1 = true := by decide +kernel
set_option maxRecDepth 100000 in
set_option maxHeartbeats 4000000 in
theorem wf_X9_joined : wfb cX9_joined 8 false m_X9_joined m_X9_joined.1 = true := by decide +kernel
set_option maxRecDepth 100000 in
set_option maxHeartbeats 4000000 in
theorem wf_X9_part : wfb cX9_part 8 false m_X9_part m_X9_part.1 = true := by decide +kernel
set_option maxRecDepth 100000 in
set_option maxHeartbeats 4000000 in
theorem wf_X9_mend : wfb cX9_mend 8 false m_X9_mend m_X9_mend.1 = true := by decide +kernel
set_option maxRecDepth 100000 in
set_option maxHeartbeats 4000000 in
theorem wf_X9_picnic : wfb cX9_picnic 8 false m_X9_picnic m_X9_picnic.1 = true := by decide +kernel
set_option maxRecDepth 100000 in
set_option maxHeartbeats 4000000 in
theorem wf_X9_fits : wfb cX9_fits 8 false m_X9_fits m_X9_fits.1 = true := by decide +kernel
set_option maxRecDepth 100000 in
set_option maxHeartbeats 4000000 in
theorem wf_X9_look : wfb cX9_look 8 false m_X9_look m_X9_look.1 = true := by decide +kernel
set_option maxRecDepth 100000 in
set_option maxHeartbeats 4000000 in
theorem wf_X9_inn : wfb cX9_inn 8 false m_X9_inn m_X9_inn.1 = true := by decide +kernel
set_option maxRecDepth 100000 in
set_option maxHeartbeats 4000000 in
theorem wf_X9_innShare : wfb cX9_innShare 8 false m_X9_innShare m_X9_innShare.1 = true := by decide +kernel
set_option maxRecDepth 100000 in
set_option maxHeartbeats 4000000 in
theorem wf_X9_luck : wfb cX9_luck 8 false m_X9_luck m_X9_luck.1 = true := by decide +kernel
set_option maxRecDepth 100000 in
set_option maxHeartbeats 4000000 in
theorem wf_X9_power : wfb cX9_power 8 false m_X9_power m_X9_power.1 = true := by decide +kernel
set_option maxRecDepth 100000 in
set_option maxHeartbeats 4000000 in
theorem wf_X9_oats : wfb cX9_oats 8 false m_X9_oats m_X9_oats.1 = true := by decide +kernel
set_option maxRecDepth 100000 in
set_option maxHeartbeats 4000000 in
theorem wf_X9_given : wfb cX9_given 8 false m_X9_given m_X9_given.1 = true := by decide +kernel
set_option maxRecDepth 100000 in
set_option maxHeartbeats 4000000 in
theorem wf_X9_weariest : wfb cX9_weariest 8 false m_X9_weariest m_X9_weariest.1 = true := by decide +kernel
set_option maxRecDepth 100000 in
set_option maxHeartbeats 4000000 in
theorem wf_X9_arrives : wfb cX9_arrives 8 false m_X9_arrives m_X9_arrives.1 = true := by decide +kernel
set_option maxRecDepth 100000 in
set_option maxHeartbeats 4000000 in
theorem wf_X9_reach : wfb cX9_reach 8 false m_X9_reach m_X9_reach.1 = true := by decide +kernel
set_option maxRecDepth 100000 in
set_option maxHeartbeats 4000000 in
theorem wf_X9_year : wfb cX9_year 8 false m_X9_year m_X9_year.1 = true := by decide +kernel
set_option maxRecDepth 100000 in
set_option maxHeartbeats 4000000 in
theorem wf_X9_span : wfb cX9_span 8 false m_X9_span m_X9_span.1 = true := by decide +kernel
set_option maxRecDepth 100000 in
set_option maxHeartbeats 4000000 in
theorem wf_X9_liveYear : wfb cX9_liveYear 8 false m_X9_liveYear m_X9_liveYear.1 = true := by decide +kernel
set_option maxRecDepth 100000 in
set_option maxHeartbeats 4000000 in
theorem wf_X9_image : wfb cX9_image 8 false m_X9_image m_X9_image.1 = true := by decide +kernel
set_option maxRecDepth 100000 in
set_option maxHeartbeats 4000000 in
theorem wf_X9_restore : wfb cX9_restore 8 false m_X9_restore m_X9_restore.1 = true := by decide +kernel
set_option maxRecDepth 100000 in
set_option maxHeartbeats 4000000 in
theorem wf_X9_status : wfb cX9_status 8 false m_X9_status m_X9_status.1 = true := by decide +kernel
set_option maxRecDepth 100000 in
set_option maxHeartbeats 4000000 in
theorem wf_X9_count : wfb cX9_count 8 false m_X9_count m_X9_count.1 = true := by decide +kernel
set_option maxRecDepth 100000 in
set_option maxHeartbeats 4000000 in
theorem wf_X9_within : wfb cX9_within 8 false m_X9_within m_X9_within.1 = true := by decide +kernel
set_option maxRecDepth 100000 in
set_option maxHeartbeats 4000000 in
theorem wf_X9_require : wfb cX9_require 8 false m_X9_require m_X9_require.1 = true := by decide +kernel
set_option maxRecDepth 100000 in
set_option maxHeartbeats 4000000 in
theorem wf_X9_requireWeekDay : wfb cX9_requireWeekDay 8 false m_X9_requireWeekDay m_X9_requireWeekDay.1 = true := by decide +kernel
set_option maxRecDepth 100000 in
set_option maxHeartbeats 4000000 in
theorem wf_X9_requireThere : wfb cX9_requireThere 8 false m_X9_requireThere m_X9_requireThere.1 = true := by decide +kernel
set_option maxRecDepth 100000 in
set_option maxHeartbeats 4000000 in
theorem wf_X9_requireTown : wfb cX9_requireTown 8 false m_X9_requireTown m_X9_requireTown.1 = true := by decide +kernel
set_option maxRecDepth 100000 in
set_option maxHeartbeats 4000000 in
theorem wf_X9_requireRoad : wfb cX9_requireRoad 8 false m_X9_requireRoad m_X9_requireRoad.1 = true := by decide +kernel
set_option maxRecDepth 100000 in
set_option maxHeartbeats 4000000 in
theorem wf_X9_requireCarter : wfb cX9_requireCarter 8 false m_X9_requireCarter m_X9_requireCarter.1 = true := by decide +kernel
