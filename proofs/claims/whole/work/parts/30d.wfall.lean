set_option maxRecDepth 100000 in
set_option maxHeartbeats 4000000 in
theorem wf_L_law_ : wfb cL_law_ 11 false m_L_law_ m_L_law_.1 = true := by decide +kernel
