/-! SMALL ANSWERS: joined, weariest, status, count, fault -/
section SML
variable {X : Nat × (Nat → Int32)} {d : Nat} {w : Bool × Bool × Bool} {S : Hp} {J : Nat → Nat → Int64} {nT nR nC : Int} {rd s : Int → Int} {cd : List (Int × Int)}
theorem c_wd1 {t : Int} (ht : 0 ≤ t ∧ t < 7) : am_call X aP (d + 2) 145 [.ref 0, .int (zI t)] (mkS w (hI S) J) = some (.inl none, (mkS w (hI S) J)) := by
  rw [go_X9_requireWeekDay, e_X9_requireWeekDay_0]
  simp (disch := omega) only [hk, hu, hI_n, hI_un, z_nat, em_d, zl, z_add, z_sub, z_mul, z_lt, z_eq, gI_mk, gJ_mk, cI_some, cV_some, cJ_some, cI_x, cV_x, cJ_x, uS_self, uS_ne, if_pos, if_neg, b01, b01n, ite_not, if_true, if_false, c_within, c_req1, rV_d]
theorem c_wd0 {t : Int} (hr : -2147483648 ≤ t ∧ t < 2147483648) (ht : ¬ (0 ≤ t ∧ t < 7)) : am_call X aP (d + 2) 145 [.ref 0, .int (zI t)] (mkS w (hI S) J) = some (.inr 2, (mkS w (hI (xbS S)) J)) := by
  rw [go_X9_requireWeekDay, e_X9_requireWeekDay_0]
  simp (disch := omega) only [hk, hu, hI_n, hI_un, z_nat, em_d, zl, z_add, z_sub, z_mul, z_lt, z_eq, gI_mk, gJ_mk, cI_some, cV_some, cJ_some, cI_x, cV_x, cJ_x, uS_self, uS_ne, if_pos, if_neg, b01, b01n, ite_not, if_true, if_false, c_within, c_req0, rX_d]
theorem c_joined (hL : CL S (iL w.1) nT nR nC rd) (hE : Ends nT nR rd) (hs : CS nR nC S 8 s) (hv : Sc nR nC s) {t : Int} (ht : 0 ≤ t ∧ t < 7) : am_call X aP (d + 3) 121 [.ref 0, .int (zI t)] (mkS w (hI S) J) = some (.inl (some (.int (zI (if joinM rd nT nR (goB nR s t) then 1 else 0)))), (mkS w (hI S) J)) := by
  have a8 := hL.2.2.2.2.2.2.2.1
  have hg := fun d => c_going (X := X) (d := d) (w := w) (J := J) (bs := false) hL hs (fun r r1 r2 => (Sc_w hv).1 r r1 r2) ht
  have hj := fun d => c_joins (X := X) (d := d) (w := w) (J := J) hL hE (goB_lt nR s t a8)
  rw [go_X9_joined, e_X9_joined_0]
  simp (disch := omega) only [hk, hu, hI_n, hI_un, z_nat, em_d, zl, z_add, z_sub, z_mul, z_lt, z_eq, gI_mk, gJ_mk, cI_some, cV_some, cJ_some, cI_x, cV_x, cJ_x, uS_self, uS_ne, if_pos, if_neg, b01, b01n, ite_not, if_true, if_false, c_wd1]
  rw [show 9999999 = 9999998 + 1 from rfl, e_X9_joined_3]
  refine (congrArg (fun z => cI z _ _) (hg _)).trans ?_
  simp (disch := omega) only [hk, hu, hI_n, hI_un, z_nat, em_d, zl, z_add, z_sub, z_mul, z_lt, z_eq, gI_mk, gJ_mk, cI_some, cV_some, cJ_some, cI_x, cV_x, cJ_x, uS_self, uS_ne, if_pos, if_neg, b01, b01n, ite_not, if_true, if_false]
  rw [hj]
  by_cases q : joinM rd nT nR (goB nR s t)
  · simp (disch := omega) only [hk, hu, hI_n, hI_un, z_nat, em_d, zl, z_add, z_sub, z_mul, z_lt, z_eq, gI_mk, gJ_mk, cI_some, cV_some, cJ_some, cI_x, cV_x, cJ_x, uS_self, uS_ne, if_pos, if_neg, b01, b01n, ite_not, if_true, if_false, q, z_bok1, rI_d]
  · simp (disch := omega) only [hk, hu, hI_n, hI_un, z_nat, em_d, zl, z_add, z_sub, z_mul, z_lt, z_eq, gI_mk, gJ_mk, cI_some, cV_some, cJ_some, cI_x, cV_x, cJ_x, uS_self, uS_ne, if_pos, if_neg, b01, b01n, ite_not, if_true, if_false, q, z_bok0, rI_d]
theorem c_joinedB {t : Int} (hr : -2147483648 ≤ t ∧ t < 2147483648) (ht : ¬ (0 ≤ t ∧ t < 7)) : am_call X aP (d + 3) 121 [.ref 0, .int (zI t)] (mkS w (hI S) J) = some (.inr 2, (mkS w (hI (xbS S)) J)) := by
  rw [go_X9_joined, e_X9_joined_0]
  simp (disch := omega) only [hk, hu, hI_n, hI_un, z_nat, em_d, zl, z_add, z_sub, z_mul, z_lt, z_eq, gI_mk, gJ_mk, cI_some, cV_some, cJ_some, cI_x, cV_x, cJ_x, uS_self, uS_ne, if_pos, if_neg, b01, b01n, ite_not, if_true, if_false, c_wd0 hr ht, rX_d]
theorem m_joined (hL : LdP S nT nR nC rd) (hE : Ends nT nR rd) (hn : NwP nR nC S s) (hv : Sc nR nC s) {t : Int} (ht : 0 ≤ t ∧ t < 7) : ∃ S', am_call X aP (d + 3) 239 [.ref 132, .int (zI t)] (mkS w (hI S) J) = some (.inl (some (.int (zI (if joinM rd nT nR (goB nR s t) then 1 else 0)))), (mkS w (hI S') J)) ∧ QuM S S' := by
  have hq0 := QuM_0 S
  obtain ⟨-, -, -, -, -, -, a7, a8, a9, a10, a11⟩ := id hL
  obtain ⟨S1, h1, h2, h3⟩ := m_takeP (X := X) (d := d) (w := w) (J := J) (NwP_q hn hq0) a8 a10
  have hq1 := QuM_fr hq0 h3 (by decide) (by decide)
  have hj := fun d => m_areJoined (X := X) (d := d) (w := w) (J := J) (LdP_q hL hq1) hE h2 (fun r r1 r2 => (Sc_w hv).1 r r1 r2) ht
  refine ⟨S1, ?_, hq1⟩
  rw [go_X10_joined, e_X10_joined_0]
  simp (disch := omega) only [hk, hu, hI_n, hI_un, z_nat, em_d, zl, z_add, z_sub, z_mul, z_lt, z_eq, gI_mk, gJ_mk, cI_some, cV_some, cJ_some, cI_x, cV_x, cJ_x, uS_self, uS_ne, if_pos, if_neg, b01, b01n, ite_not, if_true, if_false, m_within]
  rw [m_may1 (uS_self _ _ _ _)]
  simp (disch := omega) only [hk, hu, hI_n, hI_un, z_nat, em_d, zl, z_add, z_sub, z_mul, z_lt, z_eq, gI_mk, gJ_mk, cI_some, cV_some, cJ_some, cI_x, cV_x, cJ_x, uS_self, uS_ne, if_pos, if_neg, b01, b01n, ite_not, if_true, if_false]
  rw [h1]
  simp (disch := omega) only [hk, hu, hI_n, hI_un, z_nat, em_d, zl, z_add, z_sub, z_mul, z_lt, z_eq, gI_mk, gJ_mk, cI_some, cV_some, cJ_some, cI_x, cV_x, cJ_x, uS_self, uS_ne, if_pos, if_neg, b01, b01n, ite_not, if_true, if_false]
  rw [hj]
  by_cases q : joinM rd nT nR (goB nR s t)
  · simp (disch := omega) only [hk, hu, hI_n, hI_un, z_nat, em_d, zl, z_add, z_sub, z_mul, z_lt, z_eq, gI_mk, gJ_mk, cI_some, cV_some, cJ_some, cI_x, cV_x, cJ_x, uS_self, uS_ne, if_pos, if_neg, b01, b01n, ite_not, if_true, if_false, q, z_bok1, rI_d]
  · simp (disch := omega) only [hk, hu, hI_n, hI_un, z_nat, em_d, zl, z_add, z_sub, z_mul, z_lt, z_eq, gI_mk, gJ_mk, cI_some, cV_some, cJ_some, cI_x, cV_x, cJ_x, uS_self, uS_ne, if_pos, if_neg, b01, b01n, ite_not, if_true, if_false, q, z_bok0, rI_d]
theorem m_joinedB {t : Int} (hr : -2147483648 ≤ t ∧ t < 2147483648) (ht : ¬ (0 ≤ t ∧ t < 7)) : am_call X aP (d + 3) 239 [.ref 132, .int (zI t)] (mkS w (hI S) J) = some (.inl (some (.int (zI 0))), (mkS w (hI (mxB S 1)) J)) := by
  rw [go_X10_joined, e_X10_joined_0]
  simp (disch := omega) only [hk, hu, hI_n, hI_un, z_nat, em_d, zl, z_add, z_sub, z_mul, z_lt, z_eq, gI_mk, gJ_mk, cI_some, cV_some, cJ_some, cI_x, cV_x, cJ_x, uS_self, uS_ne, if_pos, if_neg, b01, b01n, ite_not, if_true, if_false, m_within]
  rw [m_may0 (uS_self _ _ _ _) (by decide) (by decide)]
  simp (disch := omega) only [hk, hu, hI_n, hI_un, z_nat, em_d, zl, z_add, z_sub, z_mul, z_lt, z_eq, gI_mk, gJ_mk, cI_some, cV_some, cJ_some, cI_x, cV_x, cJ_x, uS_self, uS_ne, if_pos, if_neg, b01, b01n, ite_not, if_true, if_false, rI_d]
  rfl
/-- the reference keeps the road alone -/
theorem ml_weariest (hL : LdP S nT nR nC rd) (hn : NwP nR nC S s) (hv : Sc nR nC s) {p : Int} (hp : 0 ≤ p ∧ p ≤ 1) : aR X (d + 1) m_X10_weariest 9999999 18 [some (.ref 132), some (.int (zI p)), some (.int (zI ((-1)))), some (.int (zI 0))] (0, 0) (mkS w (hI S) J) = some (.inl (some (.int (zI (if p = 0 then (wearF s nR.toNat).1 else (wearF s nR.toNat).2)))), (mkS w (hI S) J)) := by
  obtain ⟨a1, a2, -, -, -, -, a7, a8, a9, a10, a11⟩ := id hL
  have hw : ∀ r, 0 ≤ r → r < nR → 0 ≤ s (12 + r) ∧ s (12 + r) ≤ 8000 := fun r r1 r2 => by
    have := hv.1 r r1 r2
    have := hv.2.2.2.1
    omega
  exact loopA (fun n k (a : Int × Int) => aR X (d + 1) m_X10_weariest n 18 [some (.ref 132), some (.int (zI p)), some (.int (zI a.1)), some (.int (zI k))] (0, 0) (mkS w (hI S) J)) (fun k (a : Int × Int) => if a.2 < s (12 + k) then (k, s (12 + k)) else a) (fun k a => (a.1 = -1 ∧ a.2 = -1) ∨ (0 ≤ a.1 ∧ a.1 < nR ∧ a.2 = s (12 + a.1))) nR 1 (fun a => some (.inl (some (.int (zI (if p = 0 then a.1 else a.2)))), (mkS w (hI S) J))) (fun n k a q1 q2 q3 => by
    show aR X (d + 1) m_X10_weariest (n + 1) 18 [some (.ref 132), some (.int (zI p)), some (.int (zI a.1)), some (.int (zI k))] (0, 0) (mkS w (hI S) J) = _
    have e := hn (12 + k) (by unfold Vd; omega)
    have := hw k q1 q2
    rw [e_X10_weariest_18]
    rcases q3 with q3 | ⟨q3, q4, q5⟩
    · rw [if_pos (show a.2 < s (12 + k) by omega)]
      simp (disch := omega) only [hk, hu, hI_n, hI_un, z_nat, em_d, zl, z_add, z_sub, z_mul, z_lt, z_eq, gI_mk, gJ_mk, cI_some, cV_some, cJ_some, cI_x, cV_x, cJ_x, uS_self, uS_ne, if_pos, if_neg, b01, b01n, ite_not, if_true, if_false, a2, q3.1]
    · have e2 := hn (12 + a.1) (by unfold Vd; omega)
      have := hw a.1 q3 q4
      by_cases q : a.2 < s (12 + k)
      · rw [if_pos q]
        simp (disch := omega) only [hk, hu, hI_n, hI_un, z_nat, em_d, zl, z_add, z_sub, z_mul, z_lt, z_eq, gI_mk, gJ_mk, cI_some, cV_some, cJ_some, cI_x, cV_x, cJ_x, uS_self, uS_ne, if_pos, if_neg, b01, b01n, ite_not, if_true, if_false, a2, e, e2]
      · rw [if_neg q]
        simp (disch := omega) only [hk, hu, hI_n, hI_un, z_nat, em_d, zl, z_add, z_sub, z_mul, z_lt, z_eq, gI_mk, gJ_mk, cI_some, cV_some, cJ_some, cI_x, cV_x, cJ_x, uS_self, uS_ne, if_pos, if_neg, b01, b01n, ite_not, if_true, if_false, a2, e, e2]) (fun k a q1 q2 q3 => by
    show ((if a.2 < s (12 + k) then (k, s (12 + k)) else a).1 = -1 ∧ (if a.2 < s (12 + k) then (k, s (12 + k)) else a).2 = -1) ∨ (0 ≤ (if a.2 < s (12 + k) then (k, s (12 + k)) else a).1 ∧ (if a.2 < s (12 + k) then (k, s (12 + k)) else a).1 < nR ∧ (if a.2 < s (12 + k) then (k, s (12 + k)) else a).2 = s (12 + (if a.2 < s (12 + k) then (k, s (12 + k)) else a).1))
    by_cases q : a.2 < s (12 + k)
    · rw [if_pos q]
      exact Or.inr ⟨q1, q2, rfl⟩
    · rw [if_neg q]
      exact q3) (fun n a q1 q3 => by
    obtain ⟨n, rfl⟩ : ∃ n', n = n' + 1 := ⟨n - 1, by omega⟩
    show aR X (d + 1) m_X10_weariest (n + 1) 18 [some (.ref 132), some (.int (zI p)), some (.int (zI a.1)), some (.int (zI nR))] (0, 0) (mkS w (hI S) J) = _
    rw [e_X10_weariest_18]
    have hp2 : p = 0 ∨ p = 1 := by omega
    rcases q3 with q3 | ⟨q3, q4, q5⟩
    · rcases hp2 with rfl | rfl <;> simp (disch := omega) only [hk, hu, hI_n, hI_un, z_nat, em_d, zl, z_add, z_sub, z_mul, z_lt, z_eq, gI_mk, gJ_mk, cI_some, cV_some, cJ_some, cI_x, cV_x, cJ_x, uS_self, uS_ne, if_pos, if_neg, b01, b01n, ite_not, if_true, if_false, a2, q3.1, q3.2, rI_d]
    · have e2 := hn (12 + a.1) (by unfold Vd; omega)
      have := hw a.1 q3 q4
      rcases hp2 with rfl | rfl <;> simp (disch := omega) only [hk, hu, hI_n, hI_un, z_nat, em_d, zl, z_add, z_sub, z_mul, z_lt, z_eq, gI_mk, gJ_mk, cI_some, cV_some, cJ_some, cI_x, cV_x, cJ_x, uS_self, uS_ne, if_pos, if_neg, b01, b01n, ite_not, if_true, if_false, a2, e2, q5, rI_d]) nR.toNat 0 (-1, -1) (by omega) (by omega) (Or.inl ⟨rfl, rfl⟩) 9999999 (by omega)
theorem m_weariest (hL : LdP S nT nR nC rd) (hn : NwP nR nC S s) (hv : Sc nR nC s) {p : Int} (hp : 0 ≤ p ∧ p ≤ 1) : am_call X aP (d + 2) 256 [.ref 132, .int (zI p)] (mkS w (hI S) J) = some (.inl (some (.int (zI (if p = 0 then (wearF s nR.toNat).1 else (wearF s nR.toNat).2)))), (mkS w (hI (uS S 132 0 0)) J)) := by
  rw [go_X10_weariest, e_X10_weariest_0]
  simp (disch := omega) only [hk, hu, hI_n, hI_un, z_nat, em_d, zl, z_add, z_sub, z_mul, z_lt, z_eq, gI_mk, gJ_mk, cI_some, cV_some, cJ_some, cI_x, cV_x, cJ_x, uS_self, uS_ne, if_pos, if_neg, b01, b01n, ite_not, if_true, if_false, m_within]
  rw [m_may1 (uS_self _ _ _ _)]
  simp (disch := omega) only [hk, hu, hI_n, hI_un, z_nat, em_d, zl, z_add, z_sub, z_mul, z_lt, z_eq, gI_mk, gJ_mk, cI_some, cV_some, cJ_some, cI_x, cV_x, cJ_x, uS_self, uS_ne, if_pos, if_neg, b01, b01n, ite_not, if_true, if_false]
  exact ml_weariest (LdP_q hL (QuM_0 S)) (NwP_q hn (QuM_0 S)) hv hp
theorem m_weariestB {t : Int} (hr : -2147483648 ≤ t ∧ t < 2147483648) (ht : ¬ (0 ≤ t ∧ t ≤ 1)) : am_call X aP (d + 2) 256 [.ref 132, .int (zI t)] (mkS w (hI S) J) = some (.inl (some (.int (zI 0))), (mkS w (hI (mxB S 1)) J)) := by
  rw [go_X10_weariest, e_X10_weariest_0]
  simp (disch := omega) only [hk, hu, hI_n, hI_un, z_nat, em_d, zl, z_add, z_sub, z_mul, z_lt, z_eq, gI_mk, gJ_mk, cI_some, cV_some, cJ_some, cI_x, cV_x, cJ_x, uS_self, uS_ne, if_pos, if_neg, b01, b01n, ite_not, if_true, if_false, m_within]
  rw [m_may0 (uS_self _ _ _ _) (by decide) (by decide)]
  simp (disch := omega) only [hk, hu, hI_n, hI_un, z_nat, em_d, zl, z_add, z_sub, z_mul, z_lt, z_eq, gI_mk, gJ_mk, cI_some, cV_some, cJ_some, cI_x, cV_x, cJ_x, uS_self, uS_ne, if_pos, if_neg, b01, b01n, ite_not, if_true, if_false, rI_d]
  rfl
theorem c_status (p : Int) (hr : -2147483648 ≤ p ∧ p < 2147483648) : am_call X aP (d + 1) 141 [.ref 0, .int (zI p)] (mkS w (hI S) J) = some (.inl (some (.int (zI (if p = 0 then S 0 14 else if p = 1 then S 0 15 else -1)))), (mkS w (hI S) J)) := by
  rw [go_X9_status, e_X9_status_0]
  by_cases q0 : p = 0
  · simp (disch := omega) only [hk, hu, hI_n, hI_un, z_nat, em_d, zl, z_add, z_sub, z_mul, z_lt, z_eq, gI_mk, gJ_mk, cI_some, cV_some, cJ_some, cI_x, cV_x, cJ_x, uS_self, uS_ne, if_pos, if_neg, b01, b01n, ite_not, if_true, if_false, q0, rI_d]
  · by_cases q1 : p = 1
    · simp (disch := omega) only [hk, hu, hI_n, hI_un, z_nat, em_d, zl, z_add, z_sub, z_mul, z_lt, z_eq, gI_mk, gJ_mk, cI_some, cV_some, cJ_some, cI_x, cV_x, cJ_x, uS_self, uS_ne, if_pos, if_neg, b01, b01n, ite_not, if_true, if_false, q1, rI_d]
    · simp (disch := omega) only [hk, hu, hI_n, hI_un, z_nat, em_d, zl, z_add, z_sub, z_mul, z_lt, z_eq, gI_mk, gJ_mk, cI_some, cV_some, cJ_some, cI_x, cV_x, cJ_x, uS_self, uS_ne, if_pos, if_neg, b01, b01n, ite_not, if_true, if_false, rI_d]
theorem m_status (p : Int) (hr : -2147483648 ≤ p ∧ p < 2147483648) : am_call X aP (d + 2) 267 [.ref 132, .int (zI p)] (mkS w (hI S) J) = some (.inl (some (.int (zI (if p = 0 then S 133 0 else if p = 1 then S 133 1 else -1)))), (mkS w (hI (uS S 132 0 0)) J)) := by
  rw [go_X10_status, e_X10_status_0]
  by_cases q0 : p = 0
  · simp (disch := omega) only [hk, hu, hI_n, hI_un, z_nat, em_d, zl, z_add, z_sub, z_mul, z_lt, z_eq, gI_mk, gJ_mk, cI_some, cV_some, cJ_some, cI_x, cV_x, cJ_x, uS_self, uS_ne, if_pos, if_neg, b01, b01n, ite_not, if_true, if_false, q0, m_within, rI_d]
  · by_cases q1 : p = 1
    · simp (disch := omega) only [hk, hu, hI_n, hI_un, z_nat, em_d, zl, z_add, z_sub, z_mul, z_lt, z_eq, gI_mk, gJ_mk, cI_some, cV_some, cJ_some, cI_x, cV_x, cJ_x, uS_self, uS_ne, if_pos, if_neg, b01, b01n, ite_not, if_true, if_false, q1, m_within, rI_d]
    · simp (disch := omega) only [hk, hu, hI_n, hI_un, z_nat, em_d, zl, z_add, z_sub, z_mul, z_lt, z_eq, gI_mk, gJ_mk, cI_some, cV_some, cJ_some, cI_x, cV_x, cJ_x, uS_self, uS_ne, if_pos, if_neg, b01, b01n, ite_not, if_true, if_false, m_within, rI_d]
theorem c_count (p : Int) (hr : -2147483648 ≤ p ∧ p < 2147483648) : am_call X aP (d + 1) 142 [.ref 0, .int (zI p)] (mkS w (hI S) J) = some (.inl (some (.int (zI (if p = 0 then S 26 4 else if p = 1 then S 1 1 else if p = 2 then S 26 3 else -1)))), (mkS w (hI S) J)) := by
  rw [go_X9_count, e_X9_count_0]
  by_cases q0 : p = 0
  · simp (disch := omega) only [hk, hu, hI_n, hI_un, z_nat, em_d, zl, z_add, z_sub, z_mul, z_lt, z_eq, gI_mk, gJ_mk, cI_some, cV_some, cJ_some, cI_x, cV_x, cJ_x, uS_self, uS_ne, if_pos, if_neg, b01, b01n, ite_not, if_true, if_false, q0, rI_d]
  · by_cases q1 : p = 1
    · simp (disch := omega) only [hk, hu, hI_n, hI_un, z_nat, em_d, zl, z_add, z_sub, z_mul, z_lt, z_eq, gI_mk, gJ_mk, cI_some, cV_some, cJ_some, cI_x, cV_x, cJ_x, uS_self, uS_ne, if_pos, if_neg, b01, b01n, ite_not, if_true, if_false, q1, rI_d]
    · by_cases q2 : p = 2
      · simp (disch := omega) only [hk, hu, hI_n, hI_un, z_nat, em_d, zl, z_add, z_sub, z_mul, z_lt, z_eq, gI_mk, gJ_mk, cI_some, cV_some, cJ_some, cI_x, cV_x, cJ_x, uS_self, uS_ne, if_pos, if_neg, b01, b01n, ite_not, if_true, if_false, q2, rI_d]
      · simp (disch := omega) only [hk, hu, hI_n, hI_un, z_nat, em_d, zl, z_add, z_sub, z_mul, z_lt, z_eq, gI_mk, gJ_mk, cI_some, cV_some, cJ_some, cI_x, cV_x, cJ_x, uS_self, uS_ne, if_pos, if_neg, b01, b01n, ite_not, if_true, if_false, rI_d]
theorem m_count (p : Int) (hr : -2147483648 ≤ p ∧ p < 2147483648) : am_call X aP (d + 1) 268 [.ref 132, .int (zI p)] (mkS w (hI S) J) = some (.inl (some (.int (zI (if p = 0 then S 132 49 else if p = 1 then S 132 2 else if p = 2 then S 132 31 else -1)))), (mkS w (hI (uS S 132 0 0)) J)) := by
  rw [go_X10_count, e_X10_count_0]
  by_cases q0 : p = 0
  · simp (disch := omega) only [hk, hu, hI_n, hI_un, z_nat, em_d, zl, z_add, z_sub, z_mul, z_lt, z_eq, gI_mk, gJ_mk, cI_some, cV_some, cJ_some, cI_x, cV_x, cJ_x, uS_self, uS_ne, if_pos, if_neg, b01, b01n, ite_not, if_true, if_false, q0, rI_d]
  · by_cases q1 : p = 1
    · simp (disch := omega) only [hk, hu, hI_n, hI_un, z_nat, em_d, zl, z_add, z_sub, z_mul, z_lt, z_eq, gI_mk, gJ_mk, cI_some, cV_some, cJ_some, cI_x, cV_x, cJ_x, uS_self, uS_ne, if_pos, if_neg, b01, b01n, ite_not, if_true, if_false, q1, rI_d]
    · by_cases q2 : p = 2
      · simp (disch := omega) only [hk, hu, hI_n, hI_un, z_nat, em_d, zl, z_add, z_sub, z_mul, z_lt, z_eq, gI_mk, gJ_mk, cI_some, cV_some, cJ_some, cI_x, cV_x, cJ_x, uS_self, uS_ne, if_pos, if_neg, b01, b01n, ite_not, if_true, if_false, q2, rI_d]
      · simp (disch := omega) only [hk, hu, hI_n, hI_un, z_nat, em_d, zl, z_add, z_sub, z_mul, z_lt, z_eq, gI_mk, gJ_mk, cI_some, cV_some, cJ_some, cI_x, cV_x, cJ_x, uS_self, uS_ne, if_pos, if_neg, b01, b01n, ite_not, if_true, if_false, rI_d]
theorem c_fault : am_call X aP (d + 1) 108 [.ref 0] (mkS w (hI S) J) = some (.inl (some (.int (zI (S 0 12)))), (mkS w (hI S) J)) := by
  rw [go_X9_fault, e_X9_fault_0]
  simp (disch := omega) only [hk, hu, hI_n, hI_un, z_nat, em_d, zl, z_add, z_sub, z_mul, z_lt, z_eq, gI_mk, gJ_mk, cI_some, cV_some, cJ_some, cI_x, cV_x, cJ_x, uS_self, uS_ne, if_pos, if_neg, b01, b01n, ite_not, if_true, if_false, rI_d]
theorem m_fault : am_call X aP (d + 1) 170 [.ref 132] (mkS w (hI S) J) = some (.inl (some (.int (zI (S 132 8)))), (mkS w (hI (uS S 132 0 0)) J)) := by
  rw [go_X10_fault, e_X10_fault_0]
  simp (disch := omega) only [hk, hu, hI_n, hI_un, z_nat, em_d, zl, z_add, z_sub, z_mul, z_lt, z_eq, gI_mk, gJ_mk, cI_some, cV_some, cJ_some, cI_x, cV_x, cJ_x, uS_self, uS_ne, if_pos, if_neg, b01, b01n, ite_not, if_true, if_false, rI_d]
end SML
