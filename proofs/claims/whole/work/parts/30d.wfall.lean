/-! THE LAW'S OWN ROWS, looked through in pieces -/
noncomputable def wfs (cc : ByteArray) (oc : Nat) (ini : Bool) (M : aM) : Nat → List aE → Bool
  | 0, _ => true
  | _ + 1, [] => true
  | n + 1, (pc, _, ins, a, b) :: cs => (match ins with
      | .tableswitch d lo hi offs => swb cc M pc d lo hi offs
      | i => decide (decode cc pc = .ok (i, ilen i))) && opb oc ini M pc ins a b cs && wfs cc oc ini M n cs
theorem wfs_app {cc : ByteArray} {oc : Nat} {ini : Bool} {M : aM} : ∀ (n : Nat) (L : List aE), wfs cc oc ini M n L = true → wfb cc oc ini M (L.drop n) = true → wfb cc oc ini M L = true
  | 0, L, _, h => h
  | n + 1, [], _, h => rfl
  | n + 1, (pc, cut, ins, a, b) :: cs, h1, h2 => by
    have h1 : (((match (generalizing := false) ins with
      | .tableswitch d lo hi offs => swb cc M pc d lo hi offs
      | i => decide (decode cc pc = .ok (i, ilen i))) && opb oc ini M pc ins a b cs) && wfs cc oc ini M n cs) = true := h1
    obtain ⟨k1, k2⟩ := and2 h1
    show (((match (generalizing := false) ins with
      | .tableswitch d lo hi offs => swb cc M pc d lo hi offs
      | i => decide (decode cc pc = .ok (i, ilen i))) && opb oc ini M pc ins a b cs) && wfb cc oc ini M cs) = true
    rw [k1, wfs_app n cs k2 (by simpa using h2)]
    rfl
set_option maxRecDepth 100000 in
set_option maxHeartbeats 4000000 in
theorem wfq_0 : wfs cL_law_ 11 false m_L_law_ 50 (m_L_law_.1.drop 0) = true := by decide +kernel
set_option maxRecDepth 100000 in
set_option maxHeartbeats 4000000 in
theorem wfq_1 : wfs cL_law_ 11 false m_L_law_ 50 (m_L_law_.1.drop 50) = true := by decide +kernel
set_option maxRecDepth 100000 in
set_option maxHeartbeats 4000000 in
theorem wfq_2 : wfs cL_law_ 11 false m_L_law_ 50 (m_L_law_.1.drop 100) = true := by decide +kernel
set_option maxRecDepth 100000 in
set_option maxHeartbeats 4000000 in
theorem wfq_3 : wfs cL_law_ 11 false m_L_law_ 50 (m_L_law_.1.drop 150) = true := by decide +kernel
set_option maxRecDepth 100000 in
set_option maxHeartbeats 4000000 in
theorem wfq_4 : wfs cL_law_ 11 false m_L_law_ 50 (m_L_law_.1.drop 200) = true := by decide +kernel
set_option maxRecDepth 100000 in
set_option maxHeartbeats 4000000 in
theorem wfq_5 : wfs cL_law_ 11 false m_L_law_ 50 (m_L_law_.1.drop 250) = true := by decide +kernel
set_option maxRecDepth 100000 in
set_option maxHeartbeats 4000000 in
theorem wfq_6 : wfs cL_law_ 11 false m_L_law_ 50 (m_L_law_.1.drop 300) = true := by decide +kernel
set_option maxRecDepth 100000 in
set_option maxHeartbeats 4000000 in
theorem wfq_7 : wfs cL_law_ 11 false m_L_law_ 50 (m_L_law_.1.drop 350) = true := by decide +kernel
set_option maxRecDepth 100000 in
set_option maxHeartbeats 4000000 in
theorem wfq_8 : wfs cL_law_ 11 false m_L_law_ 50 (m_L_law_.1.drop 400) = true := by decide +kernel
set_option maxRecDepth 100000 in
set_option maxHeartbeats 4000000 in
theorem wfq_9 : wfs cL_law_ 11 false m_L_law_ 50 (m_L_law_.1.drop 450) = true := by decide +kernel
set_option maxRecDepth 100000 in
set_option maxHeartbeats 4000000 in
theorem wfq_10 : wfs cL_law_ 11 false m_L_law_ 50 (m_L_law_.1.drop 500) = true := by decide +kernel
set_option maxRecDepth 100000 in
set_option maxHeartbeats 4000000 in
theorem wfq_11 : wfs cL_law_ 11 false m_L_law_ 50 (m_L_law_.1.drop 550) = true := by decide +kernel
set_option maxRecDepth 100000 in
set_option maxHeartbeats 4000000 in
theorem wfq_12 : wfs cL_law_ 11 false m_L_law_ 50 (m_L_law_.1.drop 600) = true := by decide +kernel
set_option maxRecDepth 100000 in
set_option maxHeartbeats 4000000 in
theorem wfq_13 : wfs cL_law_ 11 false m_L_law_ 50 (m_L_law_.1.drop 650) = true := by decide +kernel
set_option maxRecDepth 100000 in
set_option maxHeartbeats 4000000 in
theorem wfq_14 : wfs cL_law_ 11 false m_L_law_ 50 (m_L_law_.1.drop 700) = true := by decide +kernel
set_option maxRecDepth 100000 in
set_option maxHeartbeats 4000000 in
theorem wfq_15 : wfs cL_law_ 11 false m_L_law_ 50 (m_L_law_.1.drop 750) = true := by decide +kernel
set_option maxRecDepth 100000 in
set_option maxHeartbeats 4000000 in
theorem wfq_16 : wfs cL_law_ 11 false m_L_law_ 50 (m_L_law_.1.drop 800) = true := by decide +kernel
set_option maxRecDepth 100000 in
set_option maxHeartbeats 4000000 in
theorem wfq_17 : wfs cL_law_ 11 false m_L_law_ 50 (m_L_law_.1.drop 850) = true := by decide +kernel
set_option maxRecDepth 100000 in
set_option maxHeartbeats 4000000 in
theorem wfq_18 : wfs cL_law_ 11 false m_L_law_ 50 (m_L_law_.1.drop 900) = true := by decide +kernel
set_option maxRecDepth 100000 in
set_option maxHeartbeats 4000000 in
theorem wfq_19 : wfs cL_law_ 11 false m_L_law_ 50 (m_L_law_.1.drop 950) = true := by decide +kernel
set_option maxRecDepth 100000 in
set_option maxHeartbeats 4000000 in
theorem wfq_20 : wfs cL_law_ 11 false m_L_law_ 50 (m_L_law_.1.drop 1000) = true := by decide +kernel
set_option maxRecDepth 100000 in
set_option maxHeartbeats 4000000 in
theorem wfq_21 : wfs cL_law_ 11 false m_L_law_ 50 (m_L_law_.1.drop 1050) = true := by decide +kernel
set_option maxRecDepth 100000 in
set_option maxHeartbeats 4000000 in
theorem wfq_22 : wfs cL_law_ 11 false m_L_law_ 50 (m_L_law_.1.drop 1100) = true := by decide +kernel
set_option maxRecDepth 100000 in
set_option maxHeartbeats 4000000 in
theorem wfq_23 : wfs cL_law_ 11 false m_L_law_ 50 (m_L_law_.1.drop 1150) = true := by decide +kernel
set_option maxRecDepth 100000 in
set_option maxHeartbeats 4000000 in
theorem wfq_24 : wfs cL_law_ 11 false m_L_law_ 50 (m_L_law_.1.drop 1200) = true := by decide +kernel
set_option maxRecDepth 100000 in
set_option maxHeartbeats 4000000 in
theorem wfq_25 : wfs cL_law_ 11 false m_L_law_ 50 (m_L_law_.1.drop 1250) = true := by decide +kernel
set_option maxRecDepth 100000 in
set_option maxHeartbeats 4000000 in
theorem wfq_26 : wfs cL_law_ 11 false m_L_law_ 50 (m_L_law_.1.drop 1300) = true := by decide +kernel
set_option maxRecDepth 100000 in
set_option maxHeartbeats 4000000 in
theorem wfq_27 : wfs cL_law_ 11 false m_L_law_ 50 (m_L_law_.1.drop 1350) = true := by decide +kernel
set_option maxRecDepth 100000 in
set_option maxHeartbeats 4000000 in
theorem wfq_28 : wfs cL_law_ 11 false m_L_law_ 50 (m_L_law_.1.drop 1400) = true := by decide +kernel
set_option maxRecDepth 100000 in
set_option maxHeartbeats 4000000 in
theorem wfq_29 : wfs cL_law_ 11 false m_L_law_ 50 (m_L_law_.1.drop 1450) = true := by decide +kernel
set_option maxRecDepth 100000 in
set_option maxHeartbeats 4000000 in
theorem wfq_30 : wfs cL_law_ 11 false m_L_law_ 50 (m_L_law_.1.drop 1500) = true := by decide +kernel
set_option maxRecDepth 100000 in
set_option maxHeartbeats 4000000 in
theorem wfq_31 : wfs cL_law_ 11 false m_L_law_ 50 (m_L_law_.1.drop 1550) = true := by decide +kernel
set_option maxRecDepth 100000 in
set_option maxHeartbeats 4000000 in
theorem wfq_nil : (m_L_law_.1.drop 1600).isEmpty = true := by decide +kernel
theorem wfq_end : wfb cL_law_ 11 false m_L_law_ (m_L_law_.1.drop 1600) = true := by
  have h := wfq_nil
  generalize m_L_law_.1.drop 1600 = L at h ⊢
  cases L with
  | nil => rfl
  | cons a l => exact absurd h (by simp)
theorem wfr_31 : wfb cL_law_ 11 false m_L_law_ (m_L_law_.1.drop 1550) = true := wfs_app 50 _ wfq_31 (by rw [List.drop_drop]; exact wfq_end)
theorem wfr_30 : wfb cL_law_ 11 false m_L_law_ (m_L_law_.1.drop 1500) = true := wfs_app 50 _ wfq_30 (by rw [List.drop_drop]; exact wfr_31)
theorem wfr_29 : wfb cL_law_ 11 false m_L_law_ (m_L_law_.1.drop 1450) = true := wfs_app 50 _ wfq_29 (by rw [List.drop_drop]; exact wfr_30)
theorem wfr_28 : wfb cL_law_ 11 false m_L_law_ (m_L_law_.1.drop 1400) = true := wfs_app 50 _ wfq_28 (by rw [List.drop_drop]; exact wfr_29)
theorem wfr_27 : wfb cL_law_ 11 false m_L_law_ (m_L_law_.1.drop 1350) = true := wfs_app 50 _ wfq_27 (by rw [List.drop_drop]; exact wfr_28)
theorem wfr_26 : wfb cL_law_ 11 false m_L_law_ (m_L_law_.1.drop 1300) = true := wfs_app 50 _ wfq_26 (by rw [List.drop_drop]; exact wfr_27)
theorem wfr_25 : wfb cL_law_ 11 false m_L_law_ (m_L_law_.1.drop 1250) = true := wfs_app 50 _ wfq_25 (by rw [List.drop_drop]; exact wfr_26)
theorem wfr_24 : wfb cL_law_ 11 false m_L_law_ (m_L_law_.1.drop 1200) = true := wfs_app 50 _ wfq_24 (by rw [List.drop_drop]; exact wfr_25)
theorem wfr_23 : wfb cL_law_ 11 false m_L_law_ (m_L_law_.1.drop 1150) = true := wfs_app 50 _ wfq_23 (by rw [List.drop_drop]; exact wfr_24)
theorem wfr_22 : wfb cL_law_ 11 false m_L_law_ (m_L_law_.1.drop 1100) = true := wfs_app 50 _ wfq_22 (by rw [List.drop_drop]; exact wfr_23)
theorem wfr_21 : wfb cL_law_ 11 false m_L_law_ (m_L_law_.1.drop 1050) = true := wfs_app 50 _ wfq_21 (by rw [List.drop_drop]; exact wfr_22)
theorem wfr_20 : wfb cL_law_ 11 false m_L_law_ (m_L_law_.1.drop 1000) = true := wfs_app 50 _ wfq_20 (by rw [List.drop_drop]; exact wfr_21)
theorem wfr_19 : wfb cL_law_ 11 false m_L_law_ (m_L_law_.1.drop 950) = true := wfs_app 50 _ wfq_19 (by rw [List.drop_drop]; exact wfr_20)
theorem wfr_18 : wfb cL_law_ 11 false m_L_law_ (m_L_law_.1.drop 900) = true := wfs_app 50 _ wfq_18 (by rw [List.drop_drop]; exact wfr_19)
theorem wfr_17 : wfb cL_law_ 11 false m_L_law_ (m_L_law_.1.drop 850) = true := wfs_app 50 _ wfq_17 (by rw [List.drop_drop]; exact wfr_18)
theorem wfr_16 : wfb cL_law_ 11 false m_L_law_ (m_L_law_.1.drop 800) = true := wfs_app 50 _ wfq_16 (by rw [List.drop_drop]; exact wfr_17)
theorem wfr_15 : wfb cL_law_ 11 false m_L_law_ (m_L_law_.1.drop 750) = true := wfs_app 50 _ wfq_15 (by rw [List.drop_drop]; exact wfr_16)
theorem wfr_14 : wfb cL_law_ 11 false m_L_law_ (m_L_law_.1.drop 700) = true := wfs_app 50 _ wfq_14 (by rw [List.drop_drop]; exact wfr_15)
theorem wfr_13 : wfb cL_law_ 11 false m_L_law_ (m_L_law_.1.drop 650) = true := wfs_app 50 _ wfq_13 (by rw [List.drop_drop]; exact wfr_14)
theorem wfr_12 : wfb cL_law_ 11 false m_L_law_ (m_L_law_.1.drop 600) = true := wfs_app 50 _ wfq_12 (by rw [List.drop_drop]; exact wfr_13)
theorem wfr_11 : wfb cL_law_ 11 false m_L_law_ (m_L_law_.1.drop 550) = true := wfs_app 50 _ wfq_11 (by rw [List.drop_drop]; exact wfr_12)
theorem wfr_10 : wfb cL_law_ 11 false m_L_law_ (m_L_law_.1.drop 500) = true := wfs_app 50 _ wfq_10 (by rw [List.drop_drop]; exact wfr_11)
theorem wfr_9 : wfb cL_law_ 11 false m_L_law_ (m_L_law_.1.drop 450) = true := wfs_app 50 _ wfq_9 (by rw [List.drop_drop]; exact wfr_10)
theorem wfr_8 : wfb cL_law_ 11 false m_L_law_ (m_L_law_.1.drop 400) = true := wfs_app 50 _ wfq_8 (by rw [List.drop_drop]; exact wfr_9)
theorem wfr_7 : wfb cL_law_ 11 false m_L_law_ (m_L_law_.1.drop 350) = true := wfs_app 50 _ wfq_7 (by rw [List.drop_drop]; exact wfr_8)
theorem wfr_6 : wfb cL_law_ 11 false m_L_law_ (m_L_law_.1.drop 300) = true := wfs_app 50 _ wfq_6 (by rw [List.drop_drop]; exact wfr_7)
theorem wfr_5 : wfb cL_law_ 11 false m_L_law_ (m_L_law_.1.drop 250) = true := wfs_app 50 _ wfq_5 (by rw [List.drop_drop]; exact wfr_6)
theorem wfr_4 : wfb cL_law_ 11 false m_L_law_ (m_L_law_.1.drop 200) = true := wfs_app 50 _ wfq_4 (by rw [List.drop_drop]; exact wfr_5)
theorem wfr_3 : wfb cL_law_ 11 false m_L_law_ (m_L_law_.1.drop 150) = true := wfs_app 50 _ wfq_3 (by rw [List.drop_drop]; exact wfr_4)
theorem wfr_2 : wfb cL_law_ 11 false m_L_law_ (m_L_law_.1.drop 100) = true := wfs_app 50 _ wfq_2 (by rw [List.drop_drop]; exact wfr_3)
theorem wfr_1 : wfb cL_law_ 11 false m_L_law_ (m_L_law_.1.drop 50) = true := wfs_app 50 _ wfq_1 (by rw [List.drop_drop]; exact wfr_2)
theorem wfr_0 : wfb cL_law_ 11 false m_L_law_ (m_L_law_.1.drop 0) = true := wfs_app 50 _ wfq_0 (by rw [List.drop_drop]; exact wfr_1)
theorem wf_L_law_ : wfb cL_law_ 11 false m_L_law_ m_L_law_.1 = true := wfr_0
