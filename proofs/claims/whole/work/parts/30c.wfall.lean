set_option maxRecDepth 100000 in
set_option maxHeartbeats 4000000 in
theorem wf_X10_inn : wfb cX10_inn 9 false m_X10_inn m_X10_inn.1 = true := by decide +kernel
set_option maxRecDepth 100000 in
set_option maxHeartbeats 4000000 in
theorem wf_X10_least : wfb cX10_least 9 false m_X10_least m_X10_least.1 = true := by decide +kernel
set_option maxRecDepth 100000 in
set_option maxHeartbeats 4000000 in
theorem wf_X10_luck : wfb cX10_luck 9 false m_X10_luck m_X10_luck.1 = true := by decide +kernel
set_option maxRecDepth 100000 in
set_option maxHeartbeats 4000000 in
theorem wf_X10_bounded : wfb cX10_bounded 9 false m_X10_bounded m_X10_bounded.1 = true := by decide +kernel
set_option maxRecDepth 100000 in
set_option maxHeartbeats 4000000 in
theorem wf_X10_oatsBy : wfb cX10_oatsBy 9 false m_X10_oatsBy m_X10_oatsBy.1 = true := by decide +kernel
set_option maxRecDepth 100000 in
set_option maxHeartbeats 4000000 in
theorem wf_X10_oats : wfb cX10_oats 9 false m_X10_oats m_X10_oats.1 = true := by decide +kernel
set_option maxRecDepth 100000 in
set_option maxHeartbeats 4000000 in
theorem wf_X10_weariest : wfb cX10_weariest 9 false m_X10_weariest m_X10_weariest.1 = true := by decide +kernel
set_option maxRecDepth 100000 in
set_option maxHeartbeats 4000000 in
theorem wf_X10_arrives : wfb cX10_arrives 9 false m_X10_arrives m_X10_arrives.1 = true := by decide +kernel
set_option maxRecDepth 100000 in
set_option maxHeartbeats 4000000 in
theorem wf_X10_draws : wfb cX10_draws 9 false m_X10_draws m_X10_draws.1 = true := by decide +kernel
set_option maxRecDepth 100000 in
set_option maxHeartbeats 4000000 in
theorem wf_X10_yearGoes : wfb cX10_yearGoes 9 false m_X10_yearGoes m_X10_yearGoes.1 = true := by decide +kernel
set_option maxRecDepth 100000 in
set_option maxHeartbeats 4000000 in
theorem wf_X10_isYear : wfb cX10_isYear 9 false m_X10_isYear m_X10_isYear.1 = true := by decide +kernel
set_option maxRecDepth 100000 in
set_option maxHeartbeats 4000000 in
theorem wf_X10_year : wfb cX10_year 9 false m_X10_year m_X10_year.1 = true := by decide +kernel
set_option maxRecDepth 100000 in
set_option maxHeartbeats 4000000 in
theorem wf_X10_span : wfb cX10_span 9 false m_X10_span m_X10_span.1 = true := by decide +kernel
set_option maxRecDepth 100000 in
set_option maxHeartbeats 4000000 in
theorem wf_X10_keepsRow : wfb cX10_keepsRow 9 false m_X10_keepsRow m_X10_keepsRow.1 = true := by decide +kernel
set_option maxRecDepth 100000 in
set_option maxHeartbeats 4000000 in
theorem wf_X10_keepsAll : wfb cX10_keepsAll 9 false m_X10_keepsAll m_X10_keepsAll.1 = true := by decide +kernel
set_option maxRecDepth 100000 in
set_option maxHeartbeats 4000000 in
theorem wf_X10_image : wfb cX10_image 9 false m_X10_image m_X10_image.1 = true := by decide +kernel
set_option maxRecDepth 100000 in
set_option maxHeartbeats 4000000 in
theorem wf_X10_restore : wfb cX10_restore 9 false m_X10_restore m_X10_restore.1 = true := by decide +kernel
set_option maxRecDepth 100000 in
set_option maxHeartbeats 4000000 in
theorem wf_X10_status : wfb cX10_status 9 false m_X10_status m_X10_status.1 = true := by decide +kernel
set_option maxRecDepth 100000 in
set_option maxHeartbeats 4000000 in
theorem wf_X10_count : wfb cX10_count 9 false m_X10_count m_X10_count.1 = true := by decide +kernel
set_option maxRecDepth 100000 in
set_option maxHeartbeats 4000000 in
theorem wf_L_land : wfb cL_land 11 false m_L_land m_L_land.1 = true := by decide +kernel
set_option maxRecDepth 100000 in
set_option maxHeartbeats 4000000 in
theorem wf_L_law : wfb cL_law 11 false m_L_law m_L_law.1 = true := by decide +kernel
set_option maxRecDepth 100000 in
set_option maxHeartbeats 4000000 in
theorem wf_L_work : wfb cL_work 11 false m_L_work m_L_work.1 = true := by decide +kernel
set_option maxRecDepth 100000 in
set_option maxHeartbeats 4000000 in
theorem wf_L_book : wfb cL_book 11 false m_L_book m_L_book.1 = true := by decide +kernel
set_option maxRecDepth 100000 in
set_option maxHeartbeats 4000000 in
theorem wf_L_told : wfb cL_told 11 false m_L_told m_L_told.1 = true := by decide +kernel
set_option maxRecDepth 100000 in
set_option maxHeartbeats 4000000 in
theorem wf_L_town : wfb cL_town 11 false m_L_town m_L_town.1 = true := by decide +kernel
set_option maxRecDepth 100000 in
set_option maxHeartbeats 4000000 in
theorem wf_L_road : wfb cL_road 11 false m_L_road m_L_road.1 = true := by decide +kernel
set_option maxRecDepth 100000 in
set_option maxHeartbeats 4000000 in
theorem wf_L_carter : wfb cL_carter 11 false m_L_carter m_L_carter.1 = true := by decide +kernel
set_option maxRecDepth 100000 in
set_option maxHeartbeats 4000000 in
theorem wf_L_would : wfb cL_would 11 false m_L_would m_L_would.1 = true := by decide +kernel
set_option maxRecDepth 100000 in
set_option maxHeartbeats 4000000 in
theorem wf_L_lasts : wfb cL_lasts 11 false m_L_lasts m_L_lasts.1 = true := by decide +kernel
set_option maxRecDepth 100000 in
set_option maxHeartbeats 4000000 in
theorem wf_L_soon : wfb cL_soon 11 false m_L_soon m_L_soon.1 = true := by decide +kernel
set_option maxRecDepth 100000 in
set_option maxHeartbeats 4000000 in
theorem wf_L_way : wfb cL_way 11 false m_L_way m_L_way.1 = true := by decide +kernel
set_option maxRecDepth 100000 in
set_option maxHeartbeats 4000000 in
theorem wf_L_latest : wfb cL_latest 11 false m_L_latest m_L_latest.1 = true := by decide +kernel
set_option maxRecDepth 100000 in
set_option maxHeartbeats 4000000 in
theorem wf_L_day : wfb cL_day 11 false m_L_day m_L_day.1 = true := by decide +kernel
set_option maxRecDepth 100000 in
set_option maxHeartbeats 4000000 in
theorem wf_L_farthest : wfb cL_farthest 11 false m_L_farthest m_L_farthest.1 = true := by decide +kernel
set_option maxRecDepth 100000 in
set_option maxHeartbeats 4000000 in
theorem wf_L_joined : wfb cL_joined 11 false m_L_joined m_L_joined.1 = true := by decide +kernel
set_option maxRecDepth 100000 in
set_option maxHeartbeats 4000000 in
theorem wf_L_part : wfb cL_part 11 false m_L_part m_L_part.1 = true := by decide +kernel
set_option maxRecDepth 100000 in
set_option maxHeartbeats 4000000 in
theorem wf_L_mend : wfb cL_mend 11 false m_L_mend m_L_mend.1 = true := by decide +kernel
set_option maxRecDepth 100000 in
set_option maxHeartbeats 4000000 in
theorem wf_L_picnic : wfb cL_picnic 11 false m_L_picnic m_L_picnic.1 = true := by decide +kernel
set_option maxRecDepth 100000 in
set_option maxHeartbeats 4000000 in
theorem wf_L_fits : wfb cL_fits 11 false m_L_fits m_L_fits.1 = true := by decide +kernel
set_option maxRecDepth 100000 in
set_option maxHeartbeats 4000000 in
theorem wf_L_look : wfb cL_look 11 false m_L_look m_L_look.1 = true := by decide +kernel
set_option maxRecDepth 100000 in
set_option maxHeartbeats 4000000 in
theorem wf_L_inn : wfb cL_inn 11 false m_L_inn m_L_inn.1 = true := by decide +kernel
set_option maxRecDepth 100000 in
set_option maxHeartbeats 4000000 in
theorem wf_L_luck : wfb cL_luck 11 false m_L_luck m_L_luck.1 = true := by decide +kernel
set_option maxRecDepth 100000 in
set_option maxHeartbeats 4000000 in
theorem wf_L_oats : wfb cL_oats 11 false m_L_oats m_L_oats.1 = true := by decide +kernel
set_option maxRecDepth 100000 in
set_option maxHeartbeats 4000000 in
theorem wf_L_weariest : wfb cL_weariest 11 false m_L_weariest m_L_weariest.1 = true := by decide +kernel
set_option maxRecDepth 100000 in
set_option maxHeartbeats 4000000 in
theorem wf_L_arrives : wfb cL_arrives 11 false m_L_arrives m_L_arrives.1 = true := by decide +kernel
set_option maxRecDepth 100000 in
set_option maxHeartbeats 4000000 in
theorem wf_L_reach : wfb cL_reach 11 false m_L_reach m_L_reach.1 = true := by decide +kernel
set_option maxRecDepth 100000 in
set_option maxHeartbeats 4000000 in
theorem wf_L_year : wfb cL_year 11 false m_L_year m_L_year.1 = true := by decide +kernel
set_option maxRecDepth 100000 in
set_option maxHeartbeats 4000000 in
theorem wf_L_span : wfb cL_span 11 false m_L_span m_L_span.1 = true := by decide +kernel
set_option maxRecDepth 100000 in
set_option maxHeartbeats 4000000 in
theorem wf_J6_bitCount_0f7a4 : wfb cJ6_bitCount_0f7a4 12 false m_J6_bitCount_0f7a4 m_J6_bitCount_0f7a4.1 = true := by decide +kernel
set_option maxRecDepth 100000 in
set_option maxHeartbeats 4000000 in
theorem wf_J9_max_7cf53 : wfb cJ9_max_7cf53 13 false m_J9_max_7cf53 m_J9_max_7cf53.1 = true := by decide +kernel
set_option maxRecDepth 100000 in
set_option maxHeartbeats 4000000 in
theorem wf_J9_min_7cf53 : wfb cJ9_min_7cf53 13 false m_J9_min_7cf53 m_J9_min_7cf53.1 = true := by decide +kernel
set_option maxRecDepth 100000 in
set_option maxHeartbeats 4000000 in
theorem wf_J7_fill_53178 : wfb cJ7_fill_53178 14 false m_J7_fill_53178 m_J7_fill_53178.1 = true := by decide +kernel
