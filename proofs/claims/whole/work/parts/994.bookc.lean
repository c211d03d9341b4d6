/-! THE CALLS OF book -/
section BKC
variable {X : Nat × (Nat → Int32)} {d : Nat} {w : Bool × Bool × Bool} {S : Hp} {J : Nat → Nat → Int64} {B : Nat → Int} {sz n tp : Int}
theorem c_bookB (h1 : S 1 1 = sz) (hsz : 0 ≤ sz ∧ sz ≤ 600) (hb : -2147483648 ≤ n ∧ n < 2147483648) (hn : ¬ (0 ≤ n ∧ n ≤ min sz 60)) : am_call X aP (d + 6) 107 [.ref 0, .int (zI n)] (mkS w (hI S) J) = some (.inr 2, (mkS w (hI (xbS S)) J)) := by
  rw [go_X9_book, e_X9_book_0]
  simp (disch := omega) only [hk, hu, hI_n, hI_un, z_nat, em_d, zl, z_add, z_sub, z_mul, z_lt, z_eq, gI_mk, gJ_mk, cI_some, cV_some, cJ_some, cI_x, cV_x, cJ_x, uS_self, uS_ne, if_pos, if_neg, b01, b01n, ite_not, if_true, if_false, Bool.false_eq_true, hLL]
  rw [c_openText0 h1 hsz (by decide) hb hn]
  simp (disch := omega) only [hk, hu, hI_n, hI_un, z_nat, em_d, zl, z_add, z_sub, z_mul, z_lt, z_eq, gI_mk, gJ_mk, cI_some, cV_some, cJ_some, cI_x, cV_x, cJ_x, uS_self, uS_ne, if_pos, if_neg, b01, b01n, ite_not, if_true, if_false, Bool.false_eq_true, hLL, rX_d]
theorem c_book (w : Bool × Bool × Bool) (J : Nat → Nat → Int64) (hT : Tx S 2 B) (h1 : S 1 1 = sz) (hsz : 0 ≤ sz ∧ sz ≤ 600) (hn : 0 ≤ n ∧ n ≤ min sz 60) : ∃ S', (∀ f, bkAll B n.toNat = .inl f → (∀ d, am_call X aP (d + 6) 107 [.ref 0, .int (zI n)] (mkS w (hI S) J) = some (.inl (some (.int (zI (f.1 - 10)))), (mkS w (hI S') J))) ∧ S' 0 12 = f.2) ∧ (∀ x, bkAll B n.toNat = .inr x → (∀ d, am_call X aP (d + 6) 107 [.ref 0, .int (zI n)] (mkS w (hI S) J) = some (.inl (some (.int (zI x.1))), (mkS (w.1, w.2.1, !w.2.2) (hI S') J))) ∧ S' 0 12 = -1 ∧ CB S' (iB (!w.2.2)) x.1 x.2) ∧ Fr [0, 1, iB (!w.2.2), iB (!w.2.2) + 1, iB (!w.2.2) + 2] S S' ∧ S' 1 1 = 0 ∧ ∀ k, k ≠ 12 → S' 0 k = S 0 k := by
  have hb := iB_c (!w.2.2)
  obtain ⟨S1, g1, g2, g3, g4, g5, g6⟩ := c_openText1 (X := X) w J hT h1 hsz (most := 60) (by decide) hn
  obtain ⟨S2, f1, f2, f3⟩ := c_bookRead (X := X) (bb := !w.2.2) w J (e := n.toNat) (by omega) g2
  have hF : Fr [0, 1, iB (!w.2.2), iB (!w.2.2) + 1, iB (!w.2.2) + 2] S S2 := Fr_tr g3 f3.1 (by simp only [List.mem_cons, List.not_mem_nil, or_false]; omega) (by simp only [List.mem_cons, List.not_mem_nil, or_false]; omega)
  have e0 : S2 0 = S1 0 := f3.1 0 (by simp only [List.mem_cons, List.not_mem_nil, or_false]; omega)
  have e1 : S2 1 1 = 0 := (f3.2 1 (by decide)).trans g4
  cases er : bkAll B n.toNat with
  | inl f =>
    rw [er] at f1 f2
    obtain ⟨y1, y2⟩ := f2
    refine ⟨uS S2 0 12 f.2, fun f' hf => ?_, fun x hx => (by cases hx), Fr_tr hF (Fr_u S2 (L := [0]) _ _ (by decide)) (fun _ z => z) (by simp only [List.mem_cons, List.not_mem_nil, or_false]; omega), (uS_ne _ _ (Or.inl (by decide))).trans e1, fun k q => by rw [uS_ne _ _ (Or.inr q), e0]; exact g6 k q⟩
    injection hf with hf
    subst hf
    refine ⟨fun d => ?_, uS_self _ _ _ _⟩
    rw [go_X9_book, e_X9_book_0]
    simp (disch := omega) only [hk, hu, hI_n, hI_un, z_nat, em_d, zl, z_add, z_sub, z_mul, z_lt, z_eq, gI_mk, gJ_mk, cI_some, cV_some, cJ_some, cI_x, cV_x, cJ_x, uS_self, uS_ne, if_pos, if_neg, b01, b01n, ite_not, if_true, if_false, Bool.false_eq_true, hLL]
    rw [g1]
    simp (disch := omega) only [hk, hu, hI_n, hI_un, z_nat, em_d, zl, z_add, z_sub, z_mul, z_lt, z_eq, gI_mk, gJ_mk, cI_some, cV_some, cJ_some, cI_x, cV_x, cJ_x, uS_self, uS_ne, if_pos, if_neg, b01, b01n, ite_not, if_true, if_false, Bool.false_eq_true, hLL]
    rw [show 9999999 = 9999998 + 1 from rfl, e_X9_book_4, f1]
    simp (disch := omega) only [hk, hu, hI_n, hI_un, z_nat, em_d, zl, z_add, z_sub, z_mul, z_lt, z_eq, gI_mk, gJ_mk, cI_some, cV_some, cJ_some, cI_x, cV_x, cJ_x, uS_self, uS_ne, if_pos, if_neg, b01, b01n, ite_not, if_true, if_false, Bool.false_eq_true, hLL, sg_l]
    rw [c_faulty y1 y2]
    simp (disch := omega) only [hk, hu, hI_n, hI_un, z_nat, em_d, zl, z_add, z_sub, z_mul, z_lt, z_eq, gI_mk, gJ_mk, cI_some, cV_some, cJ_some, cI_x, cV_x, cJ_x, uS_self, uS_ne, if_pos, if_neg, b01, b01n, ite_not, if_true, if_false, Bool.false_eq_true, hLL, rI_d]
  | inr x =>
    rw [er] at f1 f2
    refine ⟨S2, fun f hf => (by cases hf), fun x' hx => ?_, hF, e1, fun k q => by rw [e0]; exact g6 k q⟩
    injection hx with hx
    subst hx
    refine ⟨fun d => ?_, by rw [e0]; exact g5, f2⟩
    have t3 : S2 (iB (!w.2.2)) 3 = x.1 := f2.1
    rw [go_X9_book, e_X9_book_0]
    simp (disch := omega) only [hk, hu, hI_n, hI_un, z_nat, em_d, zl, z_add, z_sub, z_mul, z_lt, z_eq, gI_mk, gJ_mk, cI_some, cV_some, cJ_some, cI_x, cV_x, cJ_x, uS_self, uS_ne, if_pos, if_neg, b01, b01n, ite_not, if_true, if_false, Bool.false_eq_true, hLL]
    rw [g1]
    simp (disch := omega) only [hk, hu, hI_n, hI_un, z_nat, em_d, zl, z_add, z_sub, z_mul, z_lt, z_eq, gI_mk, gJ_mk, cI_some, cV_some, cJ_some, cI_x, cV_x, cJ_x, uS_self, uS_ne, if_pos, if_neg, b01, b01n, ite_not, if_true, if_false, Bool.false_eq_true, hLL]
    rw [show 9999999 = 9999998 + 1 from rfl, e_X9_book_4, f1]
    simp (disch := omega) only [hk, hu, hI_n, hI_un, z_nat, em_d, zl, z_add, z_sub, z_mul, z_lt, z_eq, gI_mk, gJ_mk, cI_some, cV_some, cJ_some, cI_x, cV_x, cJ_x, uS_self, uS_ne, if_pos, if_neg, b01, b01n, ite_not, if_true, if_false, Bool.false_eq_true, hLL, sg_r, t3, RX_B, rI_d]
    rfl
theorem m_bookB (h2 : S 132 2 = tp) (hb : -2147483648 ≤ n ∧ n < 2147483648) (ht : 0 ≤ tp ∧ tp ≤ 600) (hn : ¬ (0 ≤ n ∧ n ≤ min tp 60)) : am_call X aP (d + 3) 211 [.ref 132, .int (zI n)] (mkS w (hI S) J) = some (.inl (some (.int (zI 0))), (mkS w (hI (mxB S 1)) J)) := by
  have hmm := fun d => m_may0 (X := X) (d := d) (w := w) (J := J) (S := uS S 132 0 0) (uS_self _ _ _ _) (cd := 1) (k := 1) (by decide) (by decide)
  rw [go_X10_book, e_X10_book_0]
  by_cases q1 : n < 0
  · simp (disch := omega) only [hk, hu, hI_n, hI_un, z_nat, em_d, zl, z_add, z_sub, z_mul, z_lt, z_eq, gI_mk, gJ_mk, cI_some, cV_some, cJ_some, cI_x, cV_x, cJ_x, uS_self, uS_ne, if_pos, if_neg, b01, b01n, ite_not, if_true, if_false, Bool.false_eq_true]
    rw [hmm]
    simp (disch := omega) only [hk, hu, hI_n, hI_un, z_nat, em_d, zl, z_add, z_sub, z_mul, z_lt, z_eq, gI_mk, gJ_mk, cI_some, cV_some, cJ_some, cI_x, cV_x, cJ_x, uS_self, uS_ne, if_pos, if_neg, b01, b01n, ite_not, if_true, if_false, Bool.false_eq_true, rI_d]
    rfl
  · by_cases q2 : tp < n
    · simp (disch := omega) only [hk, hu, hI_n, hI_un, z_nat, em_d, zl, z_add, z_sub, z_mul, z_lt, z_eq, gI_mk, gJ_mk, cI_some, cV_some, cJ_some, cI_x, cV_x, cJ_x, uS_self, uS_ne, if_pos, if_neg, b01, b01n, ite_not, if_true, if_false, Bool.false_eq_true, h2]
      rw [hmm]
      simp (disch := omega) only [hk, hu, hI_n, hI_un, z_nat, em_d, zl, z_add, z_sub, z_mul, z_lt, z_eq, gI_mk, gJ_mk, cI_some, cV_some, cJ_some, cI_x, cV_x, cJ_x, uS_self, uS_ne, if_pos, if_neg, b01, b01n, ite_not, if_true, if_false, Bool.false_eq_true, rI_d]
      rfl
    · simp (disch := omega) only [hk, hu, hI_n, hI_un, z_nat, em_d, zl, z_add, z_sub, z_mul, z_lt, z_eq, gI_mk, gJ_mk, cI_some, cV_some, cJ_some, cI_x, cV_x, cJ_x, uS_self, uS_ne, if_pos, if_neg, b01, b01n, ite_not, if_true, if_false, Bool.false_eq_true, h2]
      rw [hmm]
      simp (disch := omega) only [hk, hu, hI_n, hI_un, z_nat, em_d, zl, z_add, z_sub, z_mul, z_lt, z_eq, gI_mk, gJ_mk, cI_some, cV_some, cJ_some, cI_x, cV_x, cJ_x, uS_self, uS_ne, if_pos, if_neg, b01, b01n, ite_not, if_true, if_false, Bool.false_eq_true, rI_d]
      rfl
theorem m_book (w : Bool × Bool × Bool) (J : Nat → Nat → Int64) (hT : Tx S 134 B) (h2 : S 132 2 = tp) (ht : 0 ≤ tp ∧ tp ≤ 600) (hn : 0 ≤ n ∧ n ≤ min tp 60) : ∃ S', (∀ f, bkAll B n.toNat = .inl f → (∀ d, am_call X aP (d + 3) 211 [.ref 132, .int (zI n)] (mkS w (hI S) J) = some (.inl (some (.int (zI (f.1 - 10)))), (mkS w (hI S') J))) ∧ S' 132 8 = f.2 ∧ S' 132 42 = S 132 42 ∧ S' 152 = S 152) ∧ (∀ x, bkAll B n.toNat = .inr x → (∀ d, am_call X aP (d + 3) 211 [.ref 132, .int (zI n)] (mkS w (hI S) J) = some (.inl (some (.int (zI x.1))), (mkS w (hI S') J))) ∧ S' 132 8 = -1 ∧ BkP S' x.1 x.2) ∧ Fr [132, 151, 152] S S' ∧ S' 132 2 = 0 ∧ S' 132 0 = 0 ∧ ∀ k, k = 1 ∨ 8 < k → k ≠ 42 → S' 132 k = S 132 k := by
  obtain ⟨n, rfl⟩ : ∃ m : Nat, n = (m : Int) := ⟨n.toNat, by omega⟩
  rw [Int.toNat_natCast]
  obtain ⟨S1, g1, g2, g3, g4, g5, g6⟩ := M_begins (X := X) (S := uS S 132 0 0) (B := B) (e := n) w J ⟨fun k hk9 => by rw [uS_row _ _ _ (by decide)]; exact hT.1 k hk9, hT.2⟩ (by omega)
  obtain ⟨S2, m, f1, f2, f3⟩ := ml_bkRun (X := X) w J (e := n) (by omega) 60 0 0 S1 0 (fun _ => 0) (by decide) (Nat.le_refl _) g2 ⟨fun i i1 i2 => absurd i2 (by omega), by decide, by decide, fun i i1 i2 => absurd i2 (by omega)⟩
  have e0 : ∀ k, k < 2 ∨ 8 < k → S2 132 k = uS S 132 0 0 132 k := fun k q => by rw [f3.2 k (by omega)]; exact g6 k (by omega)
  have e2 : S2 132 2 = 0 := (f3.2 2 (by decide)).trans g4
  have hmm := fun d => m_may1 (X := X) (d := d) (w := w) (J := J) (S := uS S 132 0 0) (uS_self _ _ _ _) 1 1
  have head : ∀ d n', aR X (d + 2) m_X10_book 9999999 27 [some (.ref 132), none, some (.int (zI 0)), none, none, none] (0, 0) (mkS w (hI S1) J) = aR X (d + 2) m_X10_book (n' + 1) 103 [some (.ref 132), none, some (.int (zI m)), none, none, none] (0, 0) (mkS w (hI S2) J) → am_call X aP (d + 3) 211 [.ref 132, .int (zI ((n : Int)))] (mkS w (hI S) J) = aR X (d + 2) m_X10_book (n' + 1) 103 [some (.ref 132), none, some (.int (zI m)), none, none, none] (0, 0) (mkS w (hI S2) J) := fun d n' hh => by
    rw [go_X10_book, e_X10_book_0]
    simp (disch := omega) only [hk, hu, hI_n, hI_un, z_nat, em_d, zl, z_add, z_sub, z_mul, z_lt, z_eq, gI_mk, gJ_mk, cI_some, cV_some, cJ_some, cI_x, cV_x, cJ_x, uS_self, uS_ne, if_pos, if_neg, b01, b01n, ite_not, if_true, if_false, Bool.false_eq_true, h2]
    rw [hmm]
    simp (disch := omega) only [hk, hu, hI_n, hI_un, z_nat, em_d, zl, z_add, z_sub, z_mul, z_lt, z_eq, gI_mk, gJ_mk, cI_some, cV_some, cJ_some, cI_x, cV_x, cJ_x, uS_self, uS_ne, if_pos, if_neg, b01, b01n, ite_not, if_true, if_false, Bool.false_eq_true]
    rw [g1]
    simp (disch := omega) only [hk, hu, hI_n, hI_un, z_nat, em_d, zl, z_add, z_sub, z_mul, z_lt, z_eq, gI_mk, gJ_mk, cI_some, cV_some, cJ_some, cI_x, cV_x, cJ_x, uS_self, uS_ne, if_pos, if_neg, b01, b01n, ite_not, if_true, if_false, Bool.false_eq_true]
    exact hh
  have hF : Fr [132, 151, 152] S S2 := Fr_tr (Fr_tr (Fr_u S (L := [132]) 0 0 (by decide)) g3 (fun _ z => z) (fun _ z => z)) f3.1 (by decide) (by decide)
  have hbk : bkAll B n = bkRun B n 60 (sk B n 0) 0 (fun _ => 0) := rfl
  rw [← hbk] at f2
  cases er : bkAll B n with
  | inl f =>
    rw [er] at f2
    refine ⟨uS S2 132 8 f.2, fun f' hf => ?_, fun x hx => (by cases hx), Fr_tr hF (Fr_u S2 (L := [132]) _ _ (by decide)) (fun _ z => z) (by decide), (uS_ne _ _ (Or.inr (by decide))).trans e2, ?_, fun k q q2 => ?_⟩
    · injection hf with hf
      subst hf
      refine ⟨fun d => ?_, uS_self _ _ _ _, ?_, ?_⟩
      · obtain ⟨n', z⟩ := f1 d 9999999 (by decide)
        refine (head d n' z).trans ?_
        rw [e_X10_book_103, M_result0 f2]
        simp (disch := omega) only [hk, hu, hI_n, hI_un, z_nat, em_d, zl, z_add, z_sub, z_mul, z_lt, z_eq, gI_mk, gJ_mk, cI_some, cV_some, cJ_some, cI_x, cV_x, cJ_x, uS_self, uS_ne, if_pos, if_neg, b01, b01n, ite_not, if_true, if_false, Bool.false_eq_true]
        have h5 : S2 132 5 = f.2 := f2.2.1
        have hp := f2.1
        simp (disch := omega) only [hk, hu, hI_n, hI_un, z_nat, em_d, zl, z_add, z_sub, z_mul, z_lt, z_eq, gI_mk, gJ_mk, cI_some, cV_some, cJ_some, cI_x, cV_x, cJ_x, uS_self, uS_ne, if_pos, if_neg, b01, b01n, ite_not, if_true, if_false, Bool.false_eq_true, h5, rI_d]
      · rw [uS_ne _ _ (Or.inr (by decide)), e0 42 (by decide), uS_ne _ _ (Or.inr (by decide))]
      · rw [uS_row _ _ _ (by decide), f3.1 152 (by decide), g3 152 (by decide), uS_row _ _ _ (by decide)]
    · rw [uS_ne _ _ (Or.inr (by decide)), e0 0 (by decide), uS_self]
    · rw [uS_ne _ _ (Or.inr (by omega)), e0 k (by omega), uS_ne _ _ (Or.inr (by omega))]
  | inr x =>
    rw [er] at f2
    obtain ⟨⟨p', hM⟩, hmx, hN, hR⟩ := f2
    have h5 := hM.2.2.2.2.2
    refine ⟨cpS (uS (uS S2 132 8 (-1)) 132 42 m) 151 152 12, fun f hf => (by cases hf), fun x' hx => ?_, fun o ho => ?_, ?_, ?_, fun k q q2 => ?_⟩
    · injection hx with hx
      subst hx
      refine ⟨fun d => ?_, ?_, ?_, fun i i1 i2 => ?_, hR⟩
      · obtain ⟨n', z⟩ := f1 d 9999999 (by decide)
        have hc := fun d => m_copies (X := X) (d := d) (w := w) (J := J) (S := uS (uS S2 132 8 (-1)) 132 42 m) (o1 := 151) (o2 := 152) (n := 12) (by decide) (by decide) (by decide) (by decide) (by decide) (by decide) (by decide) (by decide) (by decide)
        have hr := hR.1
        have hr2 := hR.2.1
        refine (head d n' z).trans ?_
        rw [e_X10_book_103, M_result1 hM]
        simp (disch := omega) only [hk, hu, hI_n, hI_un, z_nat, em_d, zl, z_add, z_sub, z_mul, z_lt, z_eq, gI_mk, gJ_mk, cI_some, cV_some, cJ_some, cI_x, cV_x, cJ_x, uS_self, uS_ne, if_pos, if_neg, b01, b01n, ite_not, if_true, if_false, Bool.false_eq_true, h5]
        rw [hc]
        simp (disch := omega) only [hk, hu, hI_n, hI_un, z_nat, em_d, zl, z_add, z_sub, z_mul, z_lt, z_eq, gI_mk, gJ_mk, cI_some, cV_some, cJ_some, cI_x, cV_x, cJ_x, uS_self, uS_ne, if_pos, if_neg, b01, b01n, ite_not, if_true, if_false, Bool.false_eq_true, hmx, rI_d]
      · unfold cpS
        rw [if_neg (by omega), uS_ne _ _ (Or.inr (by decide)), uS_self]
      · unfold cpS
        rw [if_neg (by omega), uS_self, hmx]
      · have hr2 := hR.2.1
        obtain ⟨a1, a2⟩ := hN i i1 i2
        unfold cpS
        rw [if_pos ⟨rfl, by omega, by omega⟩, if_pos ⟨rfl, by omega, by omega⟩, uS_row _ _ _ (by decide), uS_row _ _ _ (by decide)]
        exact ⟨a1, a2⟩
    · unfold cpS
      funext a
      simp only [List.mem_cons, List.not_mem_nil, or_false, not_or] at ho
      rw [if_neg (fun z => ho.2.2 z.1), uS_row _ _ _ ho.1, uS_row _ _ _ ho.1, hF o (by simp only [List.mem_cons, List.not_mem_nil, or_false, not_or]; exact ho)]
    · unfold cpS
      rw [if_neg (by omega), uS_ne _ _ (Or.inr (by decide)), uS_ne _ _ (Or.inr (by decide))]
      exact e2
    · unfold cpS
      rw [if_neg (by omega), uS_ne _ _ (Or.inr (by decide)), uS_ne _ _ (Or.inr (by decide)), e0 0 (by decide), uS_self]
    · unfold cpS
      rw [if_neg (by omega), uS_ne _ _ (Or.inr q2), uS_ne _ _ (Or.inr (by omega)), e0 k (by omega), uS_ne _ _ (Or.inr (by omega))]
end BKC
