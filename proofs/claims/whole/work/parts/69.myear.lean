/-! THE REFERENCE: what is told of a scene; a step; a year -/
/-- the scene as it is now -/
def NwP (nR nC : Int) (S : Hp) (s : Int → Int) : Prop := ∀ k, Vd nR nC k → S 147 k = s k
theorem NwP_fr {L : List Nat} {nR nC : Int} {S S' : Hp} {s : Int → Int} (h : NwP nR nC S s) (hF : Fr L S S') (h1 : ¬ 147 ∈ L) : NwP nR nC S' s := fun k q1 => by rw [hF 147 h1]; exact h k q1
section MYE
variable {X : Nat × (Nat → Int32)} {d : Nat} {w : Bool × Bool × Bool} {S : Hp} {J : Nat → Nat → Int64} {nT nR nC : Int} {rd s : Int → Int} {cd : List (Int × Int)}
theorem Vd_r {k : Int} (hR : nR ≤ 12) (hC : nC ≤ 5) (h : Vd nR nC k) : 0 ≤ k ∧ k < 51 := by
  unfold Vd at h
  omega
theorem m_takeP (hn : NwP nR nC S s) (hR : nR ≤ 12) (hC : nC ≤ 5) : ∃ S', am_call X aP (d + 2) 197 [.ref 132] (mkS w (hI S) J) = some (.inl none, (mkS w (hI S') J)) ∧ ScP nR nC S' s ∧ Fr [148] S S' := by
  refine ⟨cpS S 147 148 51, m_take, fun k hk => ?_, fun o ho => ?_⟩
  · obtain ⟨h1, h2⟩ := Vd_r hR hC hk
    unfold cpS
    rw [if_pos ⟨rfl, h1, h2⟩]
    exact hn k hk
  · have h4 : o ≠ 148 := fun z => ho (z ▸ List.mem_singleton.mpr rfl)
    funext a
    unfold cpS
    rw [if_neg (fun z => h4 z.1)]
theorem m_onRoads (hL : LdP S nT nR nC rd) (hs : ScP nR nC S s) (hv : OnR nC s) : am_call X aP (d + 1) 213 [.ref 132] (mkS w (hI S) J) = some (.inl (some (.int (zI ((travB nC s : Nat))))), (mkS w (hI S) J)) := by
  obtain ⟨a1, a2, a3, a4, a5, a6, a7, a8, a9, a10, a11⟩ := hL
  rw [go_X10_onRoads, e_X10_onRoads_0, z_0]
  refine loop_bits (fun n k m => aR X d m_X10_onRoads n 4 [some (.ref 132), some (.int (zI m)), some (.int (zI k))] (0, 0) (mkS w (hI S) J)) (fun c => decide (¬ s (34 + c) = -1)) nC 1 (fun m => some (.inl (some (.int (zI m))), (mkS w (hI S) J))) (by omega) (fun n k m q1 q2 q3 => ?_) (fun n m q1 => ?_) 9999999 (by omega)
  · show aR X d m_X10_onRoads (n + 1) 4 [some (.ref 132), some (.int (zI ((m : Int)))), some (.int (zI k))] (0, 0) (mkS w (hI S) J) = aR X d m_X10_onRoads n 4 [some (.ref 132), some (.int (zI (((m ||| (if decide (¬ s (34 + k) = -1) = true then 2 ^ k.toNat else 0) : Nat) : Int)))), some (.int (zI ((k + 1))))] (0, 0) (mkS w (hI S) J)
    rw [e_X10_onRoads_4]
    have e := hs (34 + k) (by unfold Vd; omega)
    obtain ⟨v1, v2⟩ := hv k (by omega) (by omega)
    by_cases q : s (34 + k) = -1
    · simp (disch := omega) only [hk, hu, hI_n, hI_un, z_nat, em_d, zl, z_add, z_sub, z_mul, z_lt, z_eq, gI_mk, gJ_mk, cI_some, cV_some, cJ_some, cI_x, cV_x, cJ_x, uS_self, uS_ne, if_pos, if_neg, b01, b01n, ite_not, if_true, if_false, a3, e, q, z_shl1, z_or, z_or0, decide_true, decide_false, Bool.false_eq_true, Nat.or_zero, not_true_eq_false, not_false_eq_true, eq_self]
    · simp (disch := omega) only [hk, hu, hI_n, hI_un, z_nat, em_d, zl, z_add, z_sub, z_mul, z_lt, z_eq, gI_mk, gJ_mk, cI_some, cV_some, cJ_some, cI_x, cV_x, cJ_x, uS_self, uS_ne, if_pos, if_neg, b01, b01n, ite_not, if_true, if_false, a3, e, q, z_shl1, z_or, z_or0, decide_true, decide_false, Bool.false_eq_true, Nat.or_zero, not_true_eq_false, not_false_eq_true, eq_self]
  · obtain ⟨n, rfl⟩ : ∃ n', n = n' + 1 := ⟨n - 1, by omega⟩
    show aR X d m_X10_onRoads (n + 1) 4 [some (.ref 132), some (.int (zI m)), some (.int (zI nC))] (0, 0) (mkS w (hI S) J) = _
    rw [e_X10_onRoads_4]
    simp (disch := omega) only [hk, hu, hI_n, hI_un, z_nat, em_d, zl, z_add, z_sub, z_mul, z_lt, z_eq, gI_mk, gJ_mk, cI_some, cV_some, cJ_some, cI_x, cV_x, cJ_x, uS_self, uS_ne, if_pos, if_neg, b01, b01n, ite_not, if_true, if_false, a3, rI_d]
theorem m_resting (hL : LdP S nT nR nC rd) (hs : ScP nR nC S s) (hoff : ∀ r, 0 ≤ r → r < nR → 0 ≤ s r ∧ s r < 7) (h50 : 0 ≤ s 50 ∧ s 50 < 100000) : am_call X aP (d + 3) 214 [.ref 132] (mkS w (hI S) J) = some (.inl (some (.int (zI ((restB nR s (dayOf (s 50)) : Nat))))), (mkS w (hI S) J)) := by
  obtain ⟨a1, a2, a3, a4, a5, a6, a7, a8, a9, a10, a11⟩ := hL
  rw [go_X10_resting, e_X10_resting_0, z_0]
  refine loop_bits (fun n k m => aR X (d + 2) m_X10_resting n 4 [some (.ref 132), some (.int (zI m)), some (.int (zI k))] (0, 0) (mkS w (hI S) J)) (fun r => decide (s r = dayOf (s 50))) nR 1 (fun m => some (.inl (some (.int (zI m))), (mkS w (hI S) J))) (by omega) (fun n k m q1 q2 q3 => ?_) (fun n m q1 => ?_) 9999999 (by omega)
  · show aR X (d + 2) m_X10_resting (n + 1) 4 [some (.ref 132), some (.int (zI ((m : Int)))), some (.int (zI k))] (0, 0) (mkS w (hI S) J) = aR X (d + 2) m_X10_resting n 4 [some (.ref 132), some (.int (zI (((m ||| (if decide (s k = dayOf (s 50)) = true then 2 ^ k.toNat else 0) : Nat) : Int)))), some (.int (zI ((k + 1))))] (0, 0) (mkS w (hI S) J)
    rw [e_X10_resting_4]
    have e := hs 50 (by unfold Vd; omega)
    have v := hoff k q1 q2
    by_cases q : s k = dayOf (s 50)
    · simp (disch := omega) only [hk, hu, hI_n, hI_un, z_nat, em_d, zl, z_add, z_sub, z_mul, z_lt, z_eq, gI_mk, gJ_mk, cI_some, cV_some, cJ_some, cI_x, cV_x, cJ_x, uS_self, uS_ne, if_pos, if_neg, b01, b01n, ite_not, if_true, if_false, a2, e, m_rests a8 hs, q, z_shl1, z_or, z_or0, decide_true, decide_false, Bool.false_eq_true, Nat.or_zero, not_true_eq_false, not_false_eq_true, eq_self]
    · simp (disch := omega) only [hk, hu, hI_n, hI_un, z_nat, em_d, zl, z_add, z_sub, z_mul, z_lt, z_eq, gI_mk, gJ_mk, cI_some, cV_some, cJ_some, cI_x, cV_x, cJ_x, uS_self, uS_ne, if_pos, if_neg, b01, b01n, ite_not, if_true, if_false, a2, e, m_rests a8 hs, q, z_shl1, z_or, z_or0, decide_true, decide_false, Bool.false_eq_true, Nat.or_zero, not_true_eq_false, not_false_eq_true, eq_self]
  · obtain ⟨n, rfl⟩ : ∃ n', n = n' + 1 := ⟨n - 1, by omega⟩
    show aR X (d + 2) m_X10_resting (n + 1) 4 [some (.ref 132), some (.int (zI m)), some (.int (zI nR))] (0, 0) (mkS w (hI S) J) = _
    rw [e_X10_resting_4]
    simp (disch := omega) only [hk, hu, hI_n, hI_un, z_nat, em_d, zl, z_add, z_sub, z_mul, z_lt, z_eq, gI_mk, gJ_mk, cI_some, cV_some, cJ_some, cI_x, cV_x, cJ_x, uS_self, uS_ne, if_pos, if_neg, b01, b01n, ite_not, if_true, if_false, a2, rI_d]
theorem m_draws {b : Int} (hb : 0 < b ∧ b < 100) : am_call X aP (d + 1) 258 [.ref 132, .int (zI b)] (mkS w (hI S) J) = some (.inl (some (.int (zI (drw (nxS (S 132 47)) % b)))), (mkS w (hI (uS S 132 47 (nxS (S 132 47)))) J)) := by
  have hd := drw_r (nxS (S 132 47))
  rw [go_X10_draws, e_X10_draws_0]
  simp (disch := omega) only [hk, hu, zl, z_mul, z_add, uS_self, z_eq, if_neg]
  rw [show zI 16 = nI 16 from (z_nI 16).symm, show zI 32767 = nI 32767 from (z_nI 32767).symm]
  rw [show (S 132 47 * 1103515245 + 12345) = nxS (S 132 47) from rfl, drw_l]
  simp (disch := omega) only [hk, hu, hI_n, hI_un, z_nat, em_d, zl, z_add, z_sub, z_mul, z_lt, z_eq, gI_mk, gJ_mk, cI_some, cV_some, cJ_some, cI_x, cV_x, cJ_x, uS_self, uS_ne, if_pos, if_neg, b01, b01n, ite_not, if_true, if_false, z_div, rI_d]
/-- a step's numbers are such -/
def okStep (nR nC k a b : Int) : Prop := (k = 0 ∧ 0 ≤ a ∧ a < nC ∧ 0 ≤ b ∧ b < nR) ∨ (k = 1 ∧ 0 ≤ a ∧ a < nC) ∨ (k = 2 ∧ 0 ≤ a ∧ a < nC ∧ 0 ≤ b ∧ b < 100) ∨ (k = 3 ∧ 0 ≤ a ∧ a < nR ∧ 0 ≤ b ∧ b < 7) ∨ k = 4
theorem m_isDone (hL : LdP S nT nR nC rd) (hs : ScP nR nC S s) (hv : Sc nR nC s) (hc : CdP S cd) {k a b : Int} (hok : okStep nR nC k a b) : ∃ S', am_call X aP (d + 7) 210 [.ref 132, .int (zI k), .int (zI a), .int (zI b)] (mkS w (hI S) J) = some (.inl (some (.int (zI (if canDo rd s k a b = true then 1 else 0)))), (mkS w (hI S') J)) ∧ ScP nR nC S' (if canDo rd s k a b = true then doF cd rd nR nC s k a b else s) ∧ Fr [143, 144, 150, 148] S S' := by
  have hL0 := hL
  obtain ⟨a1, a2, a3, a4, a5, a6, a7, a8, a9, a10, a11⟩ := hL
  have hon := Sc_on hv a8
  have e50 := hs 50 (by unfold Vd; omega)
  have t1 := hv.2.2.1
  have t2 := hv.2.2.2.1
  rw [go_X10_isDone, e_X10_isDone_0]
  rcases hok with ⟨rfl, q1, q2, q3, q4⟩ | ⟨rfl, q1, q2⟩ | ⟨rfl, q1, q2, q3, q4⟩ | ⟨rfl, q1, q2, q3, q4⟩ | rfl
  · have v := hv.2.1 a q1 q2
    obtain ⟨S', h1, h2, h3⟩ := m_isSet (X := X) (d := d + 4) (w := w) (J := J) hL0 hs hon (c := a) (r := b) ⟨q1, q2⟩ ⟨v.1, v.2.1⟩ ⟨q3, q4⟩
    have e : canDo rd s 0 a b = decide (canSet rd s a b) := rfl
    have e2 : doF cd rd nR nC s 0 a b = setF rd s a b := rfl
    refine ⟨S', ?_, ?_, Fr_mono h3 (by decide)⟩
    · simp (disch := omega) only [hk, hu, hI_n, hI_un, z_nat, em_d, zl, z_add, z_sub, z_mul, z_lt, z_eq, gI_mk, gJ_mk, cI_some, cV_some, cJ_some, cI_x, cV_x, cJ_x, uS_self, uS_ne, if_pos, if_neg, b01, b01n, ite_not, if_true, if_false]
      rw [h1]
      simp only [hk, hu, hI_n, hI_un, z_nat, em_d, zl, z_add, z_sub, z_mul, z_lt, z_eq, gI_mk, gJ_mk, cI_some, cV_some, cJ_some, cI_x, cV_x, cJ_x, uS_self, uS_ne, if_pos, if_neg, b01, b01n, ite_not, if_true, if_false, bok01, bok10, rI_d, e, decide_eq_true_eq]
    · rw [e, e2]
      by_cases p : canSet rd s a b
      · rw [if_pos p] at h2
        rw [if_pos (decide_eq_true p)]
        exact h2
      · rw [if_neg p] at h2
        rw [if_neg (fun z => p (of_decide_eq_true z))]
        exact h2
  · have v := hv.2.1 a q1 q2
    obtain ⟨S', h1, h2, h3⟩ := m_isTurned (X := X) (d := d + 5) (w := w) (J := J) hL0 hs (c := a) ⟨q1, q2⟩ a10 a8 ⟨v.2.2.2.2.1, v.2.2.2.2.2.1⟩
    have e : canDo rd s 1 a b = decide (¬ s (34 + a) = -1) := rfl
    have e2 : doF cd rd nR nC s 1 a b = turnF rd s a := rfl
    refine ⟨S', ?_, ?_, Fr_mono h3 (by decide)⟩
    · simp (disch := omega) only [hk, hu, hI_n, hI_un, z_nat, em_d, zl, z_add, z_sub, z_mul, z_lt, z_eq, gI_mk, gJ_mk, cI_some, cV_some, cJ_some, cI_x, cV_x, cJ_x, uS_self, uS_ne, if_pos, if_neg, b01, b01n, ite_not, if_true, if_false]
      rw [h1]
      simp only [hk, hu, hI_n, hI_un, z_nat, em_d, zl, z_add, z_sub, z_mul, z_lt, z_eq, gI_mk, gJ_mk, cI_some, cV_some, cJ_some, cI_x, cV_x, cJ_x, uS_self, uS_ne, if_pos, if_neg, b01, b01n, ite_not, if_true, if_false, bok01, bok10, rI_d, e, decide_eq_true_eq]
    · rw [e, e2]
      by_cases p : s (34 + a) = -1
      · rw [if_neg (fun z => z p)] at h2
        rw [if_neg (fun z => (of_decide_eq_true z) p)]
        exact h2
      · rw [if_pos p] at h2
        rw [if_pos (decide_eq_true p)]
        exact h2
  · have v := hv.2.1 a q1 q2
    have e : canDo rd s 2 a b = decide (¬ s (44 + a) = b) := rfl
    have e2 : doF cd rd nR nC s 2 a b = pu s (44 + a) b := rfl
    have e3 := hs (44 + a) (by unfold Vd; omega)
    by_cases p : s (44 + a) = b
    · refine ⟨S, ?_, by rw [e, if_neg (fun z => (of_decide_eq_true z) p)]; exact hs, Fr_rf _ _⟩
      simp (disch := omega) only [hk, hu, hI_n, hI_un, z_nat, em_d, zl, z_add, z_sub, z_mul, z_lt, z_eq, gI_mk, gJ_mk, cI_some, cV_some, cJ_some, cI_x, cV_x, cJ_x, uS_self, uS_ne, if_pos, if_neg, b01, b01n, ite_not, if_true, if_false, e3, p, rI_d, e, not_true_eq_false, decide_false, Bool.false_eq_true]
    · refine ⟨uS S 148 (44 + a) b, ?_, ?_, Fr_u _ _ _ (by decide)⟩
      · simp (disch := omega) only [hk, hu, hI_n, hI_un, z_nat, em_d, zl, z_add, z_sub, z_mul, z_lt, z_eq, gI_mk, gJ_mk, cI_some, cV_some, cJ_some, cI_x, cV_x, cJ_x, uS_self, uS_ne, if_pos, if_neg, b01, b01n, ite_not, if_true, if_false, e3, p, rI_d, e, not_false_eq_true, decide_true]
      · rw [e, e2, if_pos (decide_eq_true p)]
        intro j hj
        by_cases z : j = 44 + a
        · rw [z, uS_self, pu_s]
        · rw [uS_ne _ _ (Or.inr z), pu_o _ z]
          exact hs j hj
  · have v := hv.1 a q1 q2
    have e : canDo rd s 3 a b = decide (¬ s a = b) := rfl
    have e2 : doF cd rd nR nC s 3 a b = pu s a b := rfl
    have e3 := hs a (by unfold Vd; omega)
    by_cases p : s a = b
    · refine ⟨S, ?_, by rw [e, if_neg (fun z => (of_decide_eq_true z) p)]; exact hs, Fr_rf _ _⟩
      simp (disch := omega) only [hk, hu, hI_n, hI_un, z_nat, em_d, zl, z_add, z_sub, z_mul, z_lt, z_eq, gI_mk, gJ_mk, cI_some, cV_some, cJ_some, cI_x, cV_x, cJ_x, uS_self, uS_ne, if_pos, if_neg, b01, b01n, ite_not, if_true, if_false, Int.zero_add, e3, p, rI_d, e, not_true_eq_false, decide_false, Bool.false_eq_true]
    · refine ⟨uS S 148 a b, ?_, ?_, Fr_u _ _ _ (by decide)⟩
      · simp (disch := omega) only [hk, hu, hI_n, hI_un, z_nat, em_d, zl, z_add, z_sub, z_mul, z_lt, z_eq, gI_mk, gJ_mk, cI_some, cV_some, cJ_some, cI_x, cV_x, cJ_x, uS_self, uS_ne, if_pos, if_neg, b01, b01n, ite_not, if_true, if_false, Int.zero_add, e3, p, rI_d, e, not_false_eq_true, decide_true]
      · rw [e, e2, if_pos (decide_eq_true p)]
        intro j hj
        by_cases z : j = a
        · rw [z, uS_self, pu_s]
        · rw [uS_ne _ _ (Or.inr z), pu_o _ z]
          exact hs j hj
  · have e : canDo rd s 4 a b = decide (s 50 < 5600) := rfl
    have e2 : doF cd rd nR nC s 4 a b = hourF cd rd nR nC s := rfl
    by_cases p : s 50 < 5600
    · obtain ⟨S', h1, h2, h3⟩ := m_dayGoes (X := X) (d := d) (w := w) (J := J) hL0 hs hv hc
      refine ⟨S', ?_, by rw [e, e2, if_pos (decide_eq_true p)]; exact h2, h3⟩
      simp (disch := omega) only [hk, hu, hI_n, hI_un, z_nat, em_d, zl, z_add, z_sub, z_mul, z_lt, z_eq, gI_mk, gJ_mk, cI_some, cV_some, cJ_some, cI_x, cV_x, cJ_x, uS_self, uS_ne, if_pos, if_neg, b01, b01n, ite_not, if_true, if_false, e50]
      rw [h1]
      simp (disch := omega) only [hk, hu, hI_n, hI_un, z_nat, em_d, zl, z_add, z_sub, z_mul, z_lt, z_eq, gI_mk, gJ_mk, cI_some, cV_some, cJ_some, cI_x, cV_x, cJ_x, uS_self, uS_ne, if_pos, if_neg, b01, b01n, ite_not, if_true, if_false, rI_d, e, p, decide_true]
    · refine ⟨S, ?_, by rw [e, if_neg (fun z => p (of_decide_eq_true z))]; exact hs, Fr_rf _ _⟩
      simp (disch := omega) only [hk, hu, hI_n, hI_un, z_nat, em_d, zl, z_add, z_sub, z_mul, z_lt, z_eq, gI_mk, gJ_mk, cI_some, cV_some, cJ_some, cI_x, cV_x, cJ_x, uS_self, uS_ne, if_pos, if_neg, b01, b01n, ite_not, if_true, if_false, e50, rI_d, e, p, decide_false, Bool.false_eq_true]
theorem m_drawR (hL : LdP S nT nR nC rd) (hs : ScP nR nC S s) (hv : Sc nR nC s) (hc : CdP S cd) (hR0 : 0 < nR) {q m i : Int} (hq : 0 ≤ q ∧ q ≤ 16) : ∃ S', (∀ n, aR X (d + 7) m_X10_yearGoes (n + 1) 29 [some (.ref 132), none, some (.int (zI q)), some (.int (zI m)), some (.int (zI i)), none] (0, 0) (mkS w (hI S) J) = aR X (d + 7) m_X10_yearGoes n 50 [some (.ref 132), none, some (.int (zI q)), some (.int (zI m)), some (.int (zI i)), none] (0, 0) (mkS w (hI S') J)) ∧ ScP nR nC S' (drawR nR q (s, S 132 47)).1 ∧ S' 132 47 = (drawR nR q (s, S 132 47)).2 ∧ Fr [132, 143, 144, 150, 148] S S' ∧ ∀ k, k ≠ 47 → S' 132 k = S 132 k := by
  have t7 := hL.2.1
  have hR := hL.2.2.2.2.2.2.2.1
  have r1 := drw_r (nxS (S 132 47))
  unfold drawR
  by_cases p : drw (nxS (S 132 47)) % 16 < q
  · have hs1 : ScP nR nC (uS (uS (uS S 132 47 (nxS (S 132 47))) 132 47 (nxS (nxS (S 132 47)))) 132 47 (nxS (nxS (nxS (S 132 47))))) s := ScP_u (ScP_u (ScP_u hs _ _ (by decide)) _ _ (by decide)) _ _ (by decide)
    have hL1 : LdP (uS (uS (uS S 132 47 (nxS (S 132 47))) 132 47 (nxS (nxS (S 132 47)))) 132 47 (nxS (nxS (nxS (S 132 47))))) nT nR nC rd := LdP_u (LdP_u (LdP_u hL _ (by decide)) _ (by decide)) _ (by decide)
    have hc1 : CdP (uS (uS (uS S 132 47 (nxS (S 132 47))) 132 47 (nxS (nxS (S 132 47)))) 132 47 (nxS (nxS (nxS (S 132 47))))) cd := CdP_of hc (by simp (disch := omega) only [uS_ne]) (by simp (disch := omega) only [uS_row]) (by simp (disch := omega) only [uS_row])
    have r2 := drw_r (nxS (nxS (S 132 47)))
    have r3 := drw_r (nxS (nxS (nxS (S 132 47))))
    have hr : 0 ≤ drw (nxS (nxS (S 132 47))) % nR ∧ drw (nxS (nxS (S 132 47))) % nR < nR := ⟨Int.emod_nonneg _ (by omega), Int.emod_lt_of_pos _ hR0⟩
    obtain ⟨S', h1, h2, h3⟩ := m_isDone (X := X) (d := d) (w := w) (J := J) hL1 hs1 hv hc1 (k := 3) (a := drw (nxS (nxS (S 132 47))) % nR) (b := drw (nxS (nxS (nxS (S 132 47)))) % 7) (Or.inr (Or.inr (Or.inr (Or.inl ⟨rfl, hr.1, hr.2, by omega, by omega⟩))))
    refine ⟨S', fun n => ?_, ?_, ?_, ?_, ?_⟩
    · have g1 : ∀ T : Hp, uS T 132 47 (nxS (S 132 47)) 132 18 = T 132 18 := fun T => uS_ne _ _ (Or.inr (by omega))
      rw [e_X10_yearGoes_29]
      simp (disch := omega) only [hk, hu, hI_n, hI_un, z_nat, em_d, zl, z_add, z_sub, z_mul, z_lt, z_eq, gI_mk, gJ_mk, cI_some, cV_some, cJ_some, cI_x, cV_x, cJ_x, uS_self, uS_ne, if_pos, if_neg, b01, b01n, ite_not, if_true, if_false, m_draws, p, g1, t7]
      rw [h1]
      simp (disch := omega) only [hk, hu, hI_n, hI_un, z_nat, em_d, zl, z_add, z_sub, z_mul, z_lt, z_eq, gI_mk, gJ_mk, cI_some, cV_some, cJ_some, cI_x, cV_x, cJ_x, uS_self, uS_ne, if_pos, if_neg, b01, b01n, ite_not, if_true, if_false]
    · rw [if_pos p]
      have e : canDo rd s 3 (drw (nxS (nxS (S 132 47))) % nR) (drw (nxS (nxS (nxS (S 132 47)))) % 7) = decide (¬ s (drw (nxS (nxS (S 132 47))) % nR) = drw (nxS (nxS (nxS (S 132 47)))) % 7) := rfl
      rw [e] at h2
      by_cases z : s (drw (nxS (nxS (S 132 47))) % nR) = drw (nxS (nxS (nxS (S 132 47)))) % 7
      · rw [if_neg (fun y => (of_decide_eq_true y) z)] at h2
        simp only [if_pos z]
        exact h2
      · rw [if_pos (decide_eq_true z)] at h2
        simp only [if_neg z]
        exact h2
    · rw [if_pos p, h3 132 (by decide), uS_self]
    · refine Fr_tr (L1 := [132]) (fun o ho => ?_) h3 (by decide) (by decide)
      have h4 : o ≠ 132 := fun z => ho (z ▸ List.mem_singleton.mpr rfl)
      rw [uS_row _ _ _ h4, uS_row _ _ _ h4, uS_row _ _ _ h4]
    · intro k hk
      rw [h3 132 (by decide), uS_ne _ _ (Or.inr hk), uS_ne _ _ (Or.inr hk), uS_ne _ _ (Or.inr hk)]
  · refine ⟨uS S 132 47 (nxS (S 132 47)), fun n => ?_, ?_, ?_, Fr_u _ _ _ (by decide), fun k hk => uS_ne _ _ (Or.inr hk)⟩
    · rw [e_X10_yearGoes_29]
      simp (disch := omega) only [hk, hu, hI_n, hI_un, z_nat, em_d, zl, z_add, z_sub, z_mul, z_lt, z_eq, gI_mk, gJ_mk, cI_some, cV_some, cJ_some, cI_x, cV_x, cJ_x, uS_self, uS_ne, if_pos, if_neg, b01, b01n, ite_not, if_true, if_false, m_draws, p, t7]
    · rw [if_neg p]
      exact ScP_u hs _ _ (by decide)
    · rw [if_neg p, uS_self]
theorem ScP_congr {s' : Int → Int} (h : ScP nR nC S s) (e : ∀ j, s j = s' j) : ScP nR nC S s' := fun j hj => (h j hj).trans (e j)
/-- a round of the year's loop -/
theorem m_yearStep (hL : LdP S nT nR nC rd) (hs : ScP nR nC S s) (hv : InvS rd nR nC s) (hc : CdP S cd) {q m i : Int} (hq : 0 ≤ q ∧ q ≤ 16) (hm : i < m ∧ 0 ≤ i ∧ m ≤ 96) : ∃ S', (∀ n, aR X (d + 7) m_X10_yearGoes (n + 3) 7 [some (.ref 132), none, some (.int (zI q)), some (.int (zI m)), some (.int (zI i)), none] (0, 0) (mkS w (hI S) J) = aR X (d + 7) m_X10_yearGoes n 7 [some (.ref 132), none, some (.int (zI q)), some (.int (zI m)), some (.int (zI ((i + 1)))), none] (0, 0) (mkS w (hI S') J)) ∧ ScP nR nC S' (hourF cd rd nR nC (drawF rd nR nC q (s, S 132 47)).1) ∧ S' 132 47 = (drawF rd nR nC q (s, S 132 47)).2 ∧ Fr [132, 143, 144, 150, 148] S S' ∧ ∀ k, k ≠ 47 → S' 132 k = S 132 k := by
  have t7 := hL.2.1
  have t8 := hL.2.2.1
  obtain ⟨-, -, -, -, -, -, a7, a8, a9, a10, a11⟩ := id hL
  -- behind the draws
  have key : ∀ (T : Hp) (x : (Int → Int) × Int), Fr [132, 143, 144, 150, 148] S T → (∀ k, k ≠ 47 → T 132 k = S 132 k) → ScP nR nC T x.1 → T 132 47 = x.2 → Sc nR nC x.1 → ∃ S', (∀ n', aR X (d + 7) m_X10_yearGoes (n' + 1) 50 [some (.ref 132), none, some (.int (zI q)), some (.int (zI m)), some (.int (zI i)), none] (0, 0) (mkS w (hI T) J) = aR X (d + 7) m_X10_yearGoes n' 7 [some (.ref 132), none, some (.int (zI q)), some (.int (zI m)), some (.int (zI ((i + 1)))), none] (0, 0) (mkS w (hI S') J)) ∧ ScP nR nC S' (hourF cd rd nR nC x.1) ∧ S' 132 47 = x.2 ∧ Fr [132, 143, 144, 150, 148] S S' ∧ ∀ k, k ≠ 47 → S' 132 k = S 132 k := by
    intro T x hF hk hT h47 hx
    have hL1 : LdP T nT nR nC rd := LdP_of hL (hk _ (by decide)) (hk _ (by decide)) (hk _ (by decide)) (fun k _ _ => by rw [hF 137 (by decide)])
    have hc1 : CdP T cd := CdP_of hc (hk _ (by decide)) (hF 141 (by decide)) (hF 142 (by decide))
    obtain ⟨S', h1, h2, h3⟩ := m_dayGoes (X := X) (d := d + 1) (w := w) (J := J) hL1 hT hx hc1
    refine ⟨S', fun n' => ?_, h2, by rw [h3 132 (by decide)]; exact h47, Fr_tr hF h3 (by decide) (by decide), fun k hk2 => by rw [h3 132 (by decide)]; exact hk k hk2⟩
    rw [e_X10_yearGoes_50, h1]
    simp (disch := omega) only [hk, hu, hI_n, hI_un, z_nat, em_d, zl, z_add, z_sub, z_mul, z_lt, z_eq, gI_mk, gJ_mk, cI_some, cV_some, cJ_some, cI_x, cV_x, cJ_x, uS_self, uS_ne, if_pos, if_neg, b01, b01n, ite_not, if_true, if_false]
  have hinv := inv_drawF (q := q) (x := (s, S 132 47)) hv a11 ⟨a7, a8⟩ a10
  by_cases p0 : nR = 0
  · have e : drawF rd nR nC q (s, S 132 47) = (s, S 132 47) := by
      unfold drawF
      rw [if_pos p0]
    rw [e] at hinv ⊢
    obtain ⟨S', h1, h2, h3, h4, h5⟩ := key S (s, S 132 47) (Fr_rf _ _) (fun _ _ => rfl) hs rfl hinv.1.1
    refine ⟨S', fun n => ?_, h2, h3, h4, h5⟩
    rw [← h1, show n + 3 = n + 1 + 1 + 1 from rfl, e_X10_yearGoes_7]
    by_cases p1 : 0 < nC
    · simp (disch := omega) only [hk, hu, hI_n, hI_un, z_nat, em_d, zl, z_add, z_sub, z_mul, z_lt, z_eq, gI_mk, gJ_mk, cI_some, cV_some, cJ_some, cI_x, cV_x, cJ_x, uS_self, uS_ne, if_pos, if_neg, b01, b01n, ite_not, if_true, if_false, t7, t8]
      rw [e_X10_yearGoes_29]
      simp (disch := omega) only [hk, hu, hI_n, hI_un, z_nat, em_d, zl, z_add, z_sub, z_mul, z_lt, z_eq, gI_mk, gJ_mk, cI_some, cV_some, cJ_some, cI_x, cV_x, cJ_x, uS_self, uS_ne, if_pos, if_neg, b01, b01n, ite_not, if_true, if_false, t7, t8]
    · simp (disch := omega) only [hk, hu, hI_n, hI_un, z_nat, em_d, zl, z_add, z_sub, z_mul, z_lt, z_eq, gI_mk, gJ_mk, cI_some, cV_some, cJ_some, cI_x, cV_x, cJ_x, uS_self, uS_ne, if_pos, if_neg, b01, b01n, ite_not, if_true, if_false, t7, t8]
      rw [e_X10_yearGoes_29]
      simp (disch := omega) only [hk, hu, hI_n, hI_un, z_nat, em_d, zl, z_add, z_sub, z_mul, z_lt, z_eq, gI_mk, gJ_mk, cI_some, cV_some, cJ_some, cI_x, cV_x, cJ_x, uS_self, uS_ne, if_pos, if_neg, b01, b01n, ite_not, if_true, if_false, t7, t8]
  · by_cases p1 : 0 < nC
    · have e : drawF rd nR nC q (s, S 132 47) = drawR nR q (drawC rd nR nC (s, S 132 47)) := by
        unfold drawF
        rw [if_neg p0]
      rw [e] at hinv ⊢
      have hinvC := inv_drawC (x := (s, S 132 47)) hv a11 ⟨by omega, a8⟩ a10
      have hs1 : ScP nR nC (uS (uS S 132 47 (nxS (S 132 47))) 132 47 (nxS (nxS (S 132 47)))) s := ScP_u (ScP_u hs _ _ (by decide)) _ _ (by decide)
      have hL1 : LdP (uS (uS S 132 47 (nxS (S 132 47))) 132 47 (nxS (nxS (S 132 47)))) nT nR nC rd := LdP_u (LdP_u hL _ (by decide)) _ (by decide)
      have hr : 0 ≤ drw (nxS (nxS (S 132 47))) % nR ∧ drw (nxS (nxS (S 132 47))) % nR < nR := ⟨Int.emod_nonneg _ (by omega), Int.emod_lt_of_pos _ (by omega)⟩
      have hcc : 0 ≤ drw (nxS (S 132 47)) % nC ∧ drw (nxS (S 132 47)) % nC < nC := ⟨Int.emod_nonneg _ (by omega), Int.emod_lt_of_pos _ (by omega)⟩
      have v := hv.1.2.1 _ hcc.1 hcc.2
      obtain ⟨S1, h1, h2, h3⟩ := m_isSet (X := X) (d := d + 5) (w := w) (J := J) hL1 hs1 (Sc_on hv.1 a8) hcc ⟨v.1, v.2.1⟩ hr
      have f1 : Fr [132, 148] S S1 := Fr_tr (L1 := [132]) (fun o ho => by
        have h4 : o ≠ 132 := fun z => ho (z ▸ List.mem_singleton.mpr rfl)
        rw [uS_row _ _ _ h4, uS_row _ _ _ h4]) h3 (by decide) (by decide)
      have f2 : ∀ k, k ≠ 47 → S1 132 k = S 132 k := fun k hk => by
        rw [h3 132 (by decide), uS_ne _ _ (Or.inr hk), uS_ne _ _ (Or.inr hk)]
      have f3 : S1 132 47 = nxS (nxS (S 132 47)) := by rw [h3 132 (by decide), uS_self]
      have hx1 : (drawC rd nR nC (s, S 132 47)).1 = (if canSet rd s (drw (nxS (S 132 47)) % nC) (drw (nxS (nxS (S 132 47))) % nR) then setF rd s (drw (nxS (S 132 47)) % nC) (drw (nxS (nxS (S 132 47))) % nR) else s) := by
        unfold drawC
        rw [if_pos p1]
      have hx2 : (drawC rd nR nC (s, S 132 47)).2 = nxS (nxS (S 132 47)) := by
        unfold drawC
        rw [if_pos p1]
      rw [← hx1] at h2
      have hL2 : LdP S1 nT nR nC rd := LdP_of hL (f2 _ (by decide)) (f2 _ (by decide)) (f2 _ (by decide)) (fun k _ _ => by rw [f1 137 (by decide)])
      have hc2 : CdP S1 cd := CdP_of hc (f2 _ (by decide)) (f1 141 (by decide)) (f1 142 (by decide))
      obtain ⟨S2, g1, g2, g3, g4, g5⟩ := m_drawR (X := X) (d := d) (w := w) (J := J) hL2 h2 hinvC.1.1 hc2 (by omega) hq (m := m) (i := i)
      rw [f3, ← hx2] at g2 g3
      obtain ⟨S', k1, k2, k3, k4, k5⟩ := key S2 (drawR nR q (drawC rd nR nC (s, S 132 47))) (Fr_tr f1 g4 (by decide) (fun _ z => z)) (fun k hk => (g5 k hk).trans (f2 k hk)) g2 g3 hinv.1.1
      refine ⟨S', fun n => ?_, k2, k3, k4, k5⟩
      have g9 : ∀ T : Hp, uS T 132 47 (nxS (S 132 47)) 132 18 = T 132 18 := fun T => uS_ne _ _ (Or.inr (by omega))
      rw [← k1, ← g1, show n + 3 = n + 1 + 1 + 1 from rfl, e_X10_yearGoes_7]
      simp (disch := omega) only [hk, hu, hI_n, hI_un, z_nat, em_d, zl, z_add, z_sub, z_mul, z_lt, z_eq, gI_mk, gJ_mk, cI_some, cV_some, cJ_some, cI_x, cV_x, cJ_x, uS_self, uS_ne, if_pos, if_neg, b01, b01n, ite_not, if_true, if_false, t7, t8, m_draws, g9]
      rw [h1]
      simp (disch := omega) only [hk, hu, hI_n, hI_un, z_nat, em_d, zl, z_add, z_sub, z_mul, z_lt, z_eq, gI_mk, gJ_mk, cI_some, cV_some, cJ_some, cI_x, cV_x, cJ_x, uS_self, uS_ne, if_pos, if_neg, b01, b01n, ite_not, if_true, if_false]
    · have e : drawF rd nR nC q (s, S 132 47) = drawR nR q (s, S 132 47) := by
        unfold drawF drawC
        rw [if_neg p0, if_neg p1]
      rw [e] at hinv ⊢
      obtain ⟨S2, g1, g2, g3, g4, g5⟩ := m_drawR (X := X) (d := d) (w := w) (J := J) hL hs hv.1 hc (by omega) hq (m := m) (i := i)
      obtain ⟨S', k1, k2, k3, k4, k5⟩ := key S2 (drawR nR q (s, S 132 47)) g4 g5 g2 g3 hinv.1.1
      refine ⟨S', fun n => ?_, k2, k3, k4, k5⟩
      rw [← k1, ← g1, show n + 3 = n + 1 + 1 + 1 from rfl, e_X10_yearGoes_7]
      simp (disch := omega) only [hk, hu, hI_n, hI_un, z_nat, em_d, zl, z_add, z_sub, z_mul, z_lt, z_eq, gI_mk, gJ_mk, cI_some, cV_some, cJ_some, cI_x, cV_x, cJ_x, uS_self, uS_ne, if_pos, if_neg, b01, b01n, ite_not, if_true, if_false, t7, t8]
theorem m_yearGoes (hL : LdP S nT nR nC rd) (hn : NwP nR nC S s) (hv : InvS rd nR nC s) (h50 : s 50 ≤ 5600) (hc : CdP S cd) {sd q m : Int} (hq : 0 ≤ q ∧ q ≤ 16) (hm : 1 ≤ m ∧ m ≤ 96) : ∃ S', am_call X aP (d + 8) 259 [.ref 132, .int (zI sd), .int (zI q), .int (zI m)] (mkS w (hI S) J) = some (.inl none, (mkS w (hI S') J)) ∧ ScP nR nC S' (yrF cd rd nR nC q m.toNat (s, sd)).1 ∧ Fr [132, 143, 144, 150, 148] S S' ∧ ∀ k, k ≠ 47 → S' 132 k = S 132 k := by
  obtain ⟨-, -, -, -, -, -, a7, a8, a9, a10, a11⟩ := id hL
  obtain ⟨S1, h1, h2, h3⟩ := m_takeP (X := X) (d := d + 5) (w := w) (J := J) hn a8 a10
  have f1 : Fr [132, 148] S (uS S1 132 47 sd) := Fr_tr h3 (Fr_u S1 (L := [132]) 47 sd (by decide)) (by decide) (by decide)
  have f2 : ∀ k, k ≠ 47 → uS S1 132 47 sd 132 k = S 132 k := fun k hk => by
    rw [uS_ne _ _ (Or.inr hk), h3 132 (by decide)]
  obtain ⟨S2, ⟨g1, g2, g3, g4⟩, k1⟩ := loopE (fun n k T => aR X (d + 7) m_X10_yearGoes n 7 [some (.ref 132), none, some (.int (zI q)), some (.int (zI m)), some (.int (zI k)), none] (0, 0) (mkS w (hI T) J)) (fun k T => Fr [132, 143, 144, 150, 148] S T ∧ (∀ k, k ≠ 47 → T 132 k = S 132 k) ∧ ScP nR nC T (yrF cd rd nR nC q k.toNat (s, sd)).1 ∧ T 132 47 = (yrF cd rd nR nC q k.toNat (s, sd)).2) m 3 (fun k T q1 q2 q3 => by
    obtain ⟨q3, q4, q5, q6⟩ := q3
    have hL1 : LdP T nT nR nC rd := LdP_of hL (q4 _ (by decide)) (q4 _ (by decide)) (q4 _ (by decide)) (fun k _ _ => by rw [q3 137 (by decide)])
    have hc1 : CdP T cd := CdP_of hc (q4 _ (by decide)) (q3 141 (by decide)) (q3 142 (by decide))
    have hinv := (inv_yr cd (q := q) (x := (s, sd)) hv a11 ⟨a7, a8⟩ ⟨a9, a10⟩ k.toNat (by show s 50 + (k.toNat : Int) ≤ 8000; omega)).1
    have hk1 : (k + 1).toNat = k.toNat + 1 := by omega
    obtain ⟨T', y2, y3, y4, y5, y6⟩ := m_yearStep (X := X) (d := d) (w := w) (J := J) hL1 q5 hinv hc1 hq ⟨q2, q1, hm.2⟩
    refine ⟨T', ⟨Fr_tr q3 y5 (fun _ z => z) (fun _ z => z), fun j hj => (y6 j hj).trans (q4 j hj), ?_, ?_⟩, fun n hn => ?_⟩
    · rw [hk1]
      rw [q6] at y3
      exact y3
    · rw [hk1]
      rw [q6] at y4
      exact y4
    · obtain ⟨n, rfl⟩ : ∃ n', n = n' + 3 := ⟨n - 3, by omega⟩
      exact ⟨n, by omega, y2 n⟩) m.toNat 0 (uS S1 132 47 sd) (by omega) (by omega) ⟨Fr_mono f1 (by decide), f2, ScP_u h2 _ _ (by decide), uS_self _ _ _ _⟩
  obtain ⟨n1, k2, k3⟩ := k1 9999999 (by omega)
  obtain ⟨n1, rfl⟩ : ∃ n', n1 = n' + 1 := ⟨n1 - 1, by omega⟩
  refine ⟨S2, ?_, g3, g1, g2⟩
  rw [go_X10_yearGoes, e_X10_yearGoes_0, h1]
  simp (disch := omega) only [hk, hu, hI_n, hI_un, z_nat, em_d, zl, z_add, z_sub, z_mul, z_lt, z_eq, gI_mk, gJ_mk, cI_some, cV_some, cJ_some, cI_x, cV_x, cJ_x, uS_self, uS_ne, if_pos, if_neg, b01, b01n, ite_not, if_true, if_false]
  rw [k3]
  show aR X (d + 7) m_X10_yearGoes (n1 + 1) 7 [some (.ref 132), none, some (.int (zI q)), some (.int (zI m)), some (.int (zI m)), none] (0, 0) (mkS w (hI S2) J) = _
  rw [e_X10_yearGoes_7]
  simp (disch := omega) only [hk, hu, hI_n, hI_un, z_nat, em_d, zl, z_add, z_sub, z_mul, z_lt, z_eq, gI_mk, gJ_mk, cI_some, cV_some, cJ_some, cI_x, cV_x, cJ_x, uS_self, uS_ne, if_pos, if_neg, b01, b01n, ite_not, if_true, if_false, rV_d]
end MYE
