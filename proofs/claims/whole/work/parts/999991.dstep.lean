/-! A WORK RUNS: one step -/
abbrev dsL (bw bs : Bool) : List Nat := [iW bw + 3, iW bw + 4, iS bs, iS bs + 1, iS bs + 2, iS bs + 3, iS bs + 4, iS bs + 5, iS bs + 6, iS bs + 7]
theorem InvS_do {cd : List (Int × Int)} {rd : Int → Int} {nR nC : Int} {s : Int → Int} (h : InvS rd nR nC s) (hrd : Rd nR rd) (hR : nR ≤ 12) (hC : 0 ≤ nC ∧ nC ≤ 5) {k a b : Int} (hok : okStep nR nC k a b) : InvS rd nR nC (if canDo rd s k a b = true then doF cd rd nR nC s k a b else s) := by
  by_cases p : canDo rd s k a b = true
  · rw [if_pos p]
    rcases hok with ⟨rfl, q1, q2, q3, q4⟩ | ⟨rfl, q1, q2⟩ | ⟨rfl, q1, q2, q3, q4⟩ | ⟨rfl, q1, q2, q3, q4⟩ | rfl
    · exact inv_set h hrd hR hC.2 ⟨q1, q2⟩ ⟨q3, q4⟩
    · have e : canDo rd s 1 a b = decide (¬ s (34 + a) = -1) := rfl
      rw [e] at p
      exact inv_turn h hrd hR hC.2 ⟨q1, q2⟩ (of_decide_eq_true p)
    · exact inv_load h hR hC.2 ⟨q1, q2⟩ ⟨q3, q4⟩
    · exact inv_off h hR hC.2 ⟨q1, q2⟩ ⟨q3, q4⟩
    · have e : canDo rd s 4 a b = decide (s 50 < 5600) := rfl
      rw [e] at p
      have := of_decide_eq_true p
      exact inv_hour cd h hrd hR hC (by omega)
  · rw [if_neg p]
    exact h
theorem okst_ok {nc nr k a b : Int} (h : okst nc nr k a b) : okStep nr nc k a b := by
  unfold okst at h
  unfold okStep
  omega
section DST
variable {X : Nat × (Nat → Int32)} {d : Nat} {w : Bool × Bool × Bool} {S : Hp} {J : Nat → Nat → Int64} {nT nR nC : Int} {rd s : Int → Int} {cd : List (Int × Int)} {bl bs bw : Bool}
theorem c_dstep (hL : CL S (iL bl) nT nR nC rd) (hs : CS nR nC S (iS bs) s) (hv : InvS rd nR nC s) (hc : CW S (iW bw) cd) (hR : nR ≤ 12) (hC : nC ≤ 5) {x : Nat} (hx : x < 150) {k a b : Int} (h4 : S 4 (x : Int) = k) (h5 : S 5 (x : Int) = a) (h6 : S 6 (x : Int) = b) (hok : okStep nR nC k a b) : ∃ S', am_call X aP (d + 6) 77 [.ref 3, .ref ((iL bl)), .ref ((iW bw)), .ref ((iS bs)), .int (zI x)] (mkS w (hI S) J) = some (.inl (some (.int (zI (if canDo rd s k a b = true then 1 else 0)))), (mkS w (hI S') J)) ∧ CS nR nC S' (iS bs) (if canDo rd s k a b = true then doF cd rd nR nC s k a b else s) ∧ Fr (dsL bw bs) S S' := by
  have hon := Sc_on hv.1 hR
  have t1 := hv.1.2.2.1
  have t2 := hv.1.2.2.2.1
  have e8 := hs.2.2.1
  rw [go_X6_doStep, e_X6_doStep_0]
  rcases hok with ⟨rfl, q1, q2, q3, q4⟩ | ⟨rfl, q1, q2⟩ | ⟨rfl, q1, q2, q3, q4⟩ | ⟨rfl, q1, q2, q3, q4⟩ | rfl
  · have v := hv.1.2.1 a q1 q2
    obtain ⟨S', h1, h2, h3⟩ := c_setOut (X := X) (d := d + 3) (w := w) (J := J) hL hs hon (c := a) (r := b) ⟨q1, q2⟩ ⟨v.1, v.2.1⟩ ⟨q3, q4⟩
    have e : canDo rd s 0 a b = decide (canSet rd s a b) := rfl
    have e2 : doF cd rd nR nC s 0 a b = setF rd s a b := rfl
    refine ⟨S', ?_, ?_, Fr_mono h3 (by intro z hz; simp only [List.mem_cons, List.not_mem_nil, or_false] at hz ⊢; omega)⟩
    · simp (disch := omega) only [hk, hu, hI_n, hI_un, z_nat, em_d, zl, z_add, z_sub, z_mul, z_lt, z_eq, gI_mk, gJ_mk, cI_some, cV_some, cJ_some, cI_x, cV_x, cJ_x, uS_self, uS_ne, if_pos, if_neg, b01, b01n, ite_not, if_true, if_false, Bool.false_eq_true, hLL, h4, h5, h6]
      rw [h1]
      simp only [hk, hu, hI_n, hI_un, z_nat, em_d, zl, z_add, z_sub, z_mul, z_lt, z_eq, gI_mk, gJ_mk, cI_some, cV_some, cJ_some, cI_x, cV_x, cJ_x, uS_self, uS_ne, if_pos, if_neg, b01, b01n, ite_not, if_true, if_false, Bool.false_eq_true, hLL, bok01, bok10, rI_d, e, decide_eq_true_eq]
    · rw [e, e2]
      by_cases p : canSet rd s a b
      · rw [if_pos p] at h2
        rw [if_pos (decide_eq_true p)]
        exact h2
      · rw [if_neg p] at h2
        rw [if_neg (fun z => p (of_decide_eq_true z))]
        exact h2
  · have v := hv.1.2.1 a q1 q2
    obtain ⟨S', h1, h2, h3⟩ := c_turnRound (X := X) (d := d + 4) (w := w) (J := J) hL hs (c := a) ⟨q1, q2⟩ ⟨v.2.2.2.2.1, v.2.2.2.2.2.1⟩
    have e : canDo rd s 1 a b = decide (¬ s (34 + a) = -1) := rfl
    have e2 : doF cd rd nR nC s 1 a b = turnF rd s a := rfl
    refine ⟨S', ?_, ?_, Fr_mono h3 (by intro z hz; simp only [List.mem_cons, List.not_mem_nil, or_false] at hz ⊢; omega)⟩
    · simp (disch := omega) only [hk, hu, hI_n, hI_un, z_nat, em_d, zl, z_add, z_sub, z_mul, z_lt, z_eq, gI_mk, gJ_mk, cI_some, cV_some, cJ_some, cI_x, cV_x, cJ_x, uS_self, uS_ne, if_pos, if_neg, b01, b01n, ite_not, if_true, if_false, Bool.false_eq_true, hLL, h4, h5, h6]
      rw [h1]
      simp only [hk, hu, hI_n, hI_un, z_nat, em_d, zl, z_add, z_sub, z_mul, z_lt, z_eq, gI_mk, gJ_mk, cI_some, cV_some, cJ_some, cI_x, cV_x, cJ_x, uS_self, uS_ne, if_pos, if_neg, b01, b01n, ite_not, if_true, if_false, Bool.false_eq_true, hLL, bok01, bok10, rI_d, e, decide_eq_true_eq]
    · rw [e, e2]
      by_cases p : s (34 + a) = -1
      · rw [if_neg (fun z => z p)] at h2
        rw [if_neg (fun z => (of_decide_eq_true z) p)]
        exact h2
      · rw [if_pos p] at h2
        rw [if_pos (decide_eq_true p)]
        exact h2
  · have v := hv.1.2.1 a q1 q2
    obtain ⟨S', h1, h2, h3⟩ := c_loadAnew (X := X) (d := d + 4) (w := w) (J := J) hs hR hC (c := a) (v := b) ⟨q1, q2⟩ ⟨v.2.2.2.2.2.2.2.2.1, v.2.2.2.2.2.2.2.2.2⟩ ⟨q3, q4⟩
    have e : canDo rd s 2 a b = decide (¬ s (44 + a) = b) := rfl
    have e2 : doF cd rd nR nC s 2 a b = pu s (44 + a) b := rfl
    refine ⟨S', ?_, ?_, Fr_mono h3 (by intro z hz; simp only [List.mem_cons, List.not_mem_nil, or_false] at hz ⊢; omega)⟩
    · simp (disch := omega) only [hk, hu, hI_n, hI_un, z_nat, em_d, zl, z_add, z_sub, z_mul, z_lt, z_eq, gI_mk, gJ_mk, cI_some, cV_some, cJ_some, cI_x, cV_x, cJ_x, uS_self, uS_ne, if_pos, if_neg, b01, b01n, ite_not, if_true, if_false, Bool.false_eq_true, hLL, h4, h5, h6]
      rw [h1]
      simp only [hk, hu, hI_n, hI_un, z_nat, em_d, zl, z_add, z_sub, z_mul, z_lt, z_eq, gI_mk, gJ_mk, cI_some, cV_some, cJ_some, cI_x, cV_x, cJ_x, uS_self, uS_ne, if_pos, if_neg, b01, b01n, ite_not, if_true, if_false, Bool.false_eq_true, hLL, bok01, bok10, rI_d, e, decide_eq_true_eq]
    · rw [e, e2]
      by_cases p : s (44 + a) = b
      · rw [if_neg (fun z => z p)] at h2
        rw [if_neg (fun z => (of_decide_eq_true z) p)]
        exact h2
      · rw [if_pos p] at h2
        rw [if_pos (decide_eq_true p)]
        exact h2
  · have v := hv.1.1 a q1 q2
    obtain ⟨S', h1, h2, h3⟩ := c_offAnew (X := X) (d := d + 4) (w := w) (J := J) hs hR (r := a) (v := b) ⟨q1, q2⟩ ⟨v.1, v.2.1⟩ ⟨q3, q4⟩
    have e : canDo rd s 3 a b = decide (¬ s a = b) := rfl
    have e2 : doF cd rd nR nC s 3 a b = pu s a b := rfl
    refine ⟨S', ?_, ?_, Fr_mono h3 (by intro z hz; simp only [List.mem_cons, List.not_mem_nil, or_false] at hz ⊢; omega)⟩
    · simp (disch := omega) only [hk, hu, hI_n, hI_un, z_nat, em_d, zl, z_add, z_sub, z_mul, z_lt, z_eq, gI_mk, gJ_mk, cI_some, cV_some, cJ_some, cI_x, cV_x, cJ_x, uS_self, uS_ne, if_pos, if_neg, b01, b01n, ite_not, if_true, if_false, Bool.false_eq_true, hLL, h4, h5, h6]
      rw [h1]
      simp only [hk, hu, hI_n, hI_un, z_nat, em_d, zl, z_add, z_sub, z_mul, z_lt, z_eq, gI_mk, gJ_mk, cI_some, cV_some, cJ_some, cI_x, cV_x, cJ_x, uS_self, uS_ne, if_pos, if_neg, b01, b01n, ite_not, if_true, if_false, Bool.false_eq_true, hLL, bok01, bok10, rI_d, e, decide_eq_true_eq]
    · rw [e, e2]
      by_cases p : s a = b
      · rw [if_neg (fun z => z p)] at h2
        rw [if_neg (fun z => (of_decide_eq_true z) p)]
        exact h2
      · rw [if_pos p] at h2
        rw [if_pos (decide_eq_true p)]
        exact h2
  · have e : canDo rd s 4 a b = decide (s 50 < 5600) := rfl
    have e2 : doF cd rd nR nC s 4 a b = hourF cd rd nR nC s := rfl
    by_cases p : s 50 < 5600
    · obtain ⟨S', h1, h2, h3, -⟩ := c_passHour (X := X) (d := d) (w := w) (J := J) hL hs (Sc_w hv.1) ⟨t1, by omega⟩ hc
      refine ⟨S', ?_, by rw [e, e2, if_pos (decide_eq_true p)]; exact h2, Fr_mono h3 (by intro z hz; simp only [List.mem_cons, List.not_mem_nil, or_false] at hz ⊢; omega)⟩
      simp (disch := omega) only [hk, hu, hI_n, hI_un, z_nat, em_d, zl, z_add, z_sub, z_mul, z_lt, z_eq, gI_mk, gJ_mk, cI_some, cV_some, cJ_some, cI_x, cV_x, cJ_x, uS_self, uS_ne, if_pos, if_neg, b01, b01n, ite_not, if_true, if_false, Bool.false_eq_true, hLL, h4, h5, h6, e8]
      rw [h1]
      rw [e, if_pos (decide_eq_true p)]
      simp (disch := omega) only [hk, hu, hI_n, hI_un, z_nat, em_d, zl, z_add, z_sub, z_mul, z_lt, z_eq, gI_mk, gJ_mk, cI_some, cV_some, cJ_some, cI_x, cV_x, cJ_x, uS_self, uS_ne, if_pos, if_neg, b01, b01n, ite_not, if_true, if_false, Bool.false_eq_true, hLL, rI_d]
    · refine ⟨S, ?_, by rw [e, if_neg (fun z => p (of_decide_eq_true z))]; exact hs, Fr_rf _ _⟩
      simp (disch := omega) only [hk, hu, hI_n, hI_un, z_nat, em_d, zl, z_add, z_sub, z_mul, z_lt, z_eq, gI_mk, gJ_mk, cI_some, cV_some, cJ_some, cI_x, cV_x, cJ_x, uS_self, uS_ne, if_pos, if_neg, b01, b01n, ite_not, if_true, if_false, Bool.false_eq_true, hLL, h4, h5, h6, e8]
      rw [e, if_neg (fun z => p (of_decide_eq_true z))]
      simp (disch := omega) only [hk, hu, hI_n, hI_un, z_nat, em_d, zl, z_add, z_sub, z_mul, z_lt, z_eq, gI_mk, gJ_mk, cI_some, cV_some, cJ_some, cI_x, cV_x, cJ_x, uS_self, uS_ne, if_pos, if_neg, b01, b01n, ite_not, if_true, if_false, Bool.false_eq_true, hLL, rI_d]
end DST
