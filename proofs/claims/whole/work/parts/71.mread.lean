/-! THE REFERENCE: what is asked of it: told, town, road, carter, would, weariest -/
/-- rows for its own use; what a call leaves -/
def scM : List Nat := [132, 143, 144, 148, 150, 153, 154, 155]
def QuM (S S' : Hp) : Prop := Fr scM S S' ∧ (∀ k, k ≠ 0 → k ≠ 47 → S' 132 k = S 132 k) ∧ S' 132 0 = 0
theorem QuM_0 (S : Hp) : QuM S (uS S 132 0 0) := ⟨Fr_u S _ _ (by decide), fun k h _ => uS_ne _ _ (Or.inr h), uS_self _ _ _ _⟩
theorem QuM_fr {L : List Nat} {S S1 S2 : Hp} (h : QuM S S1) (hF : Fr L S1 S2) (h1 : ∀ o, o ∈ L → o ∈ scM) (h2 : ¬ 132 ∈ L) : QuM S S2 := ⟨Fr_tr h.1 hF (fun _ z => z) h1, fun k a b => by rw [hF 132 h2]; exact h.2.1 k a b, by rw [hF 132 h2]; exact h.2.2⟩
theorem QuM_yr {L : List Nat} {S S1 S2 : Hp} (h : QuM S S1) (hF : Fr L S1 S2) (h1 : ∀ o, o ∈ L → o ∈ scM) (h2 : ∀ k, k ≠ 47 → S2 132 k = S1 132 k) : QuM S S2 := ⟨Fr_tr h.1 hF (fun _ z => z) h1, fun k a b => by rw [h2 k b]; exact h.2.1 k a b, by rw [h2 0 (by decide)]; exact h.2.2⟩
theorem LdP_q {S S' : Hp} {nT nR nC : Int} {rd : Int → Int} (h : LdP S nT nR nC rd) (hq : QuM S S') : LdP S' nT nR nC rd := LdP_of h (hq.2.1 _ (by decide) (by decide)) (hq.2.1 _ (by decide) (by decide)) (hq.2.1 _ (by decide) (by decide)) (fun k _ _ => by rw [hq.1 137 (by decide)])
theorem CdP_q {S S' : Hp} {cd : List (Int × Int)} (h : CdP S cd) (hq : QuM S S') : CdP S' cd := CdP_of h (hq.2.1 _ (by decide) (by decide)) (hq.1 141 (by decide)) (hq.1 142 (by decide))
theorem NwP_q {nR nC : Int} {S S' : Hp} {s : Int → Int} (h : NwP nR nC S s) (hq : QuM S S') : NwP nR nC S' s := NwP_fr h hq.1 (by decide)
/-- refused: what is counted -/
def mxB (S : Hp) (c : Int) : Hp := badS (uS S 132 0 0) c 1
def mxN (S : Hp) : Hp := badS (uS S 132 0 0) 1 0
section MRD
variable {X : Nat × (Nat → Int32)} {d : Nat} {w : Bool × Bool × Bool} {S : Hp} {J : Nat → Nat → Int64} {nT nR nC : Int} {rd s : Int → Int} {cd : List (Int × Int)}
theorem m_told (hL : LdP S nT nR nC rd) (hn : NwP nR nC S s) (hv : Sc nR nC s) {nB rs : Int} (hB : S 132 42 = nB) (hrs : S 132 32 = rs) {p : Int} (hp : 0 ≤ p ∧ p ≤ 11) : ∃ S', am_call X aP (d + 4) 215 [.ref 132, .int (zI p)] (mkS w (hI S) J) = some (.inl (some (.int (zI (toldV nT nR nC nB rs s p)))), (mkS w (hI S') J)) ∧ QuM S S' := by
  obtain ⟨-, -, t1, t2, -⟩ := id hv
  have hq0 := QuM_0 S
  have hL1 := LdP_q hL hq0
  obtain ⟨S1, h1, h2, h3⟩ := m_takeP (X := X) (d := d + 1) (w := w) (J := J) (NwP_q hn hq0) hL.2.2.2.2.2.2.2.1 hL.2.2.2.2.2.2.2.2.2.1
  have hq1 := QuM_fr hq0 h3 (by decide) (by decide)
  have hL2 := LdP_q hL hq1
  obtain ⟨a1, a2, a3, a4, a5, a6, a7, a8, a9, a10, a11⟩ := id hL2
  have s50 := h2 50 (by unfold Vd; omega)
  have s49 := h2 49 (by unfold Vd; omega)
  have b1 : S1 132 42 = nB := (hq1.2.1 42 (by decide) (by decide)).trans hB
  have b2 : S1 132 32 = rs := (hq1.2.1 32 (by decide) (by decide)).trans hrs
  have htr := fun d => m_onRoads (X := X) (d := d) (w := w) (J := J) hL2 h2 (Sc_on hv a8)
  have hre := fun d => m_resting (X := X) (d := d) (w := w) (J := J) hL2 h2 (fun r r1 r2 => (Sc_w hv).1 r r1 r2) (by omega)
  refine ⟨S1, ?_, hq1⟩
  rw [go_X10_told, e_X10_told_0]
  simp (disch := omega) only [hk, hu, hI_n, hI_un, z_nat, em_d, zl, z_add, z_sub, z_mul, z_lt, z_eq, gI_mk, gJ_mk, cI_some, cV_some, cJ_some, cI_x, cV_x, cJ_x, uS_self, uS_ne, if_pos, if_neg, b01, b01n, ite_not, if_true, if_false, m_within]
  rw [m_may1 (uS_self _ _ _ _)]
  simp (disch := omega) only [hk, hu, hI_n, hI_un, z_nat, em_d, zl, z_add, z_sub, z_mul, z_lt, z_eq, gI_mk, gJ_mk, cI_some, cV_some, cJ_some, cI_x, cV_x, cJ_x, uS_self, uS_ne, if_pos, if_neg, b01, b01n, ite_not, if_true, if_false]
  rw [h1]
  have : p = 0 ∨ p = 1 ∨ p = 2 ∨ p = 3 ∨ p = 4 ∨ p = 5 ∨ p = 6 ∨ p = 7 ∨ p = 8 ∨ p = 9 ∨ p = 10 ∨ p = 11 := by omega
  unfold toldV
  rcases this with rfl | rfl | rfl | rfl | rfl | rfl | rfl | rfl | rfl | rfl | rfl | rfl <;> simp (disch := omega) only [hk, hu, hI_n, hI_un, z_nat, em_d, zl, z_add, z_sub, z_mul, z_lt, z_eq, gI_mk, gJ_mk, cI_some, cV_some, cJ_some, cI_x, cV_x, cJ_x, uS_self, uS_ne, if_pos, if_neg, b01, b01n, ite_not, if_true, if_false, a1, a2, a3, s50, s49, b1, b2, z_div, m_dayOf, htr, hre, rI_d]
theorem m_told0 {p : Int} (hr : -2147483648 ≤ p ∧ p < 2147483648) (hp : ¬ (0 ≤ p ∧ p ≤ 11)) : am_call X aP (d + 4) 215 [.ref 132, .int (zI p)] (mkS w (hI S) J) = some (.inl (some (.int (zI 0))), (mkS w (hI (mxB S 1)) J)) := by
  rw [go_X10_told, e_X10_told_0]
  simp (disch := omega) only [hk, hu, hI_n, hI_un, z_nat, em_d, zl, z_add, z_sub, z_mul, z_lt, z_eq, gI_mk, gJ_mk, cI_some, cV_some, cJ_some, cI_x, cV_x, cJ_x, uS_self, uS_ne, if_pos, if_neg, b01, b01n, ite_not, if_true, if_false, m_within]
  rw [m_may0 (uS_self _ _ _ _) (by decide) (by decide)]
  simp (disch := omega) only [hk, hu, hI_n, hI_un, z_nat, em_d, zl, z_add, z_sub, z_mul, z_lt, z_eq, gI_mk, gJ_mk, cI_some, cV_some, cJ_some, cI_x, cV_x, cJ_x, uS_self, uS_ne, if_pos, if_neg, b01, b01n, ite_not, if_true, if_false, rI_d]
  rfl
theorem m_town (hL : LdP S nT nR nC rd) (hn : NwP nR nC S s) (hv : Sc nR nC s) {t p : Int} (ht : 0 ≤ t ∧ t < nT) (hp : 0 ≤ p ∧ p ≤ 1) : ∃ S', am_call X aP (d + 3) 219 [.ref 132, .int (zI t), .int (zI p)] (mkS w (hI S) J) = some (.inl (some (.int (zI (townV nR nC rd s t p)))), (mkS w (hI S') J)) ∧ QuM S S' := by
  have hq0 := QuM_0 S
  have hL1 := LdP_q hL hq0
  obtain ⟨S1, h1, h2, h3⟩ := m_takeP (X := X) (d := d) (w := w) (J := J) (NwP_q hn hq0) hL.2.2.2.2.2.2.2.1 hL.2.2.2.2.2.2.2.2.2.1
  have hq1 := QuM_fr hq0 h3 (by decide) (by decide)
  have hL2 := LdP_q hL hq1
  obtain ⟨a1, a2, a3, a4, a5, a6, a7, a8, a9, a10, a11⟩ := id hL2
  refine ⟨S1, ?_, hq1⟩
  rw [go_X10_town, e_X10_town_0, z_0, hu.1, m_isTown1 hL1 (uS_self _ _ _ _) ht]
  simp (disch := omega) only [hk, hu, hI_n, hI_un, z_nat, em_d, zl, z_add, z_sub, z_mul, z_lt, z_eq, gI_mk, gJ_mk, cI_some, cV_some, cJ_some, cI_x, cV_x, cJ_x, uS_self, uS_ne, if_pos, if_neg, b01, b01n, ite_not, if_true, if_false, m_within]
  rw [m_may1 (uS_self _ _ _ _)]
  simp (disch := omega) only [hk, hu, hI_n, hI_un, z_nat, em_d, zl, z_add, z_sub, z_mul, z_lt, z_eq, gI_mk, gJ_mk, cI_some, cV_some, cJ_some, cI_x, cV_x, cJ_x, uS_self, uS_ne, if_pos, if_neg, b01, b01n, ite_not, if_true, if_false]
  rw [h1]
  simp (disch := omega) only [hk, hu, hI_n, hI_un, z_nat, em_d, zl, z_add, z_sub, z_mul, z_lt, z_eq, gI_mk, gJ_mk, cI_some, cV_some, cJ_some, cI_x, cV_x, cJ_x, uS_self, uS_ne, if_pos, if_neg, b01, b01n, ite_not, if_true, if_false]
  have : p = 0 ∨ p = 1 := by omega
  unfold townV
  rcases this with rfl | rfl
  · rw [if_pos rfl]
    refine loop_bits (fun n k m => aR X (d + 2) m_X10_town n 24 [some (.ref 132), some (.int (zI t)), some (.int (zI 0)), some (.int (zI m)), some (.int (zI k))] (0, 0) (mkS w (hI S1) J)) (fun r => decide (rd (4 * r) = t ∨ rd (4 * r + 1) = t)) nR 2 (fun m => some (.inl (some (.int (zI m))), (mkS w (hI S1) J))) (by omega) (fun n k m q1 q2 q3 => ?_) (fun n m q1 => ?_) 9999999 (by omega)
    · show aR X (d + 2) m_X10_town (n + 1) 24 [some (.ref 132), some (.int (zI t)), some (.int (zI 0)), some (.int (zI ((m : Int)))), some (.int (zI k))] (0, 0) (mkS w (hI S1) J) = aR X (d + 2) m_X10_town n 24 [some (.ref 132), some (.int (zI t)), some (.int (zI 0)), some (.int (zI (((m ||| (if decide (rd (4 * k) = t ∨ rd (4 * k + 1) = t) = true then 2 ^ k.toNat else 0) : Nat) : Int)))), some (.int (zI ((k + 1))))] (0, 0) (mkS w (hI S1) J)
      rw [e_X10_town_24]
      by_cases q : goesF rd k t
      · simp (disch := omega) only [hk, hu, hI_n, hI_un, z_nat, em_d, zl, z_add, z_sub, z_mul, z_lt, z_eq, gI_mk, gJ_mk, cI_some, cV_some, cJ_some, cI_x, cV_x, cJ_x, uS_self, uS_ne, if_pos, if_neg, b01, b01n, ite_not, if_true, if_false, a2, m_goesFrom hL2, q, z_shl1, z_or, z_or0, decide_true, decide_false, Bool.false_eq_true, Nat.or_zero, not_true_eq_false, not_false_eq_true, eq_self]
      · simp (disch := omega) only [hk, hu, hI_n, hI_un, z_nat, em_d, zl, z_add, z_sub, z_mul, z_lt, z_eq, gI_mk, gJ_mk, cI_some, cV_some, cJ_some, cI_x, cV_x, cJ_x, uS_self, uS_ne, if_pos, if_neg, b01, b01n, ite_not, if_true, if_false, a2, m_goesFrom hL2, q, z_shl1, z_or, z_or0, decide_true, decide_false, Bool.false_eq_true, Nat.or_zero, not_true_eq_false, not_false_eq_true, eq_self]
    · obtain ⟨n, rfl⟩ : ∃ n', n = n' + 1 + 1 := ⟨n - 2, by omega⟩
      show aR X (d + 2) m_X10_town (n + 1 + 1) 24 [some (.ref 132), some (.int (zI t)), some (.int (zI 0)), some (.int (zI m)), some (.int (zI nR))] (0, 0) (mkS w (hI S1) J) = _
      rw [e_X10_town_24]
      simp (disch := omega) only [hk, hu, hI_n, hI_un, z_nat, em_d, zl, z_add, z_sub, z_mul, z_lt, z_eq, gI_mk, gJ_mk, cI_some, cV_some, cJ_some, cI_x, cV_x, cJ_x, uS_self, uS_ne, if_pos, if_neg, b01, b01n, ite_not, if_true, if_false, a2]
      rw [e_X10_town_47]
      by_cases z : 0 < nC
      · simp (disch := omega) only [hk, hu, hI_n, hI_un, z_nat, em_d, zl, z_add, z_sub, z_mul, z_lt, z_eq, gI_mk, gJ_mk, cI_some, cV_some, cJ_some, cI_x, cV_x, cJ_x, uS_self, uS_ne, if_pos, if_neg, b01, b01n, ite_not, if_true, if_false, a3, rI_d]
      · simp (disch := omega) only [hk, hu, hI_n, hI_un, z_nat, em_d, zl, z_add, z_sub, z_mul, z_lt, z_eq, gI_mk, gJ_mk, cI_some, cV_some, cJ_some, cI_x, cV_x, cJ_x, uS_self, uS_ne, if_pos, if_neg, b01, b01n, ite_not, if_true, if_false, a3, rI_d]
  · rw [if_neg (by decide)]
    have e24 : aR X (d + 2) m_X10_town 9999999 24 [some (.ref 132), some (.int (zI t)), some (.int (zI 1)), some (.int (zI 0)), some (.int (zI 0))] (0, 0) (mkS w (hI S1) J) = aR X (d + 2) m_X10_town 9999998 47 [some (.ref 132), some (.int (zI t)), some (.int (zI 1)), some (.int (zI 0)), some (.int (zI 0))] (0, 0) (mkS w (hI S1) J) := by
      rw [show 9999999 = 9999998 + 1 from rfl, e_X10_town_24]
      by_cases z : 0 < nR
      · simp (disch := omega) only [hk, hu, hI_n, hI_un, z_nat, em_d, zl, z_add, z_sub, z_mul, z_lt, z_eq, gI_mk, gJ_mk, cI_some, cV_some, cJ_some, cI_x, cV_x, cJ_x, uS_self, uS_ne, if_pos, if_neg, b01, b01n, ite_not, if_true, if_false, a2]
      · simp (disch := omega) only [hk, hu, hI_n, hI_un, z_nat, em_d, zl, z_add, z_sub, z_mul, z_lt, z_eq, gI_mk, gJ_mk, cI_some, cV_some, cJ_some, cI_x, cV_x, cJ_x, uS_self, uS_ne, if_pos, if_neg, b01, b01n, ite_not, if_true, if_false, a2]
    rw [e24]
    refine loop_bits (fun n k m => aR X (d + 2) m_X10_town n 47 [some (.ref 132), some (.int (zI t)), some (.int (zI 1)), some (.int (zI m)), some (.int (zI k))] (0, 0) (mkS w (hI S1) J)) (fun c => decide (s (34 + c) = -1 ∧ s (24 + c) = t)) nC 1 (fun m => some (.inl (some (.int (zI m))), (mkS w (hI S1) J))) (by omega) (fun n k m q1 q2 q3 => ?_) (fun n m q1 => ?_) 9999998 (by omega)
    · show aR X (d + 2) m_X10_town (n + 1) 47 [some (.ref 132), some (.int (zI t)), some (.int (zI 1)), some (.int (zI ((m : Int)))), some (.int (zI k))] (0, 0) (mkS w (hI S1) J) = aR X (d + 2) m_X10_town n 47 [some (.ref 132), some (.int (zI t)), some (.int (zI 1)), some (.int (zI (((m ||| (if decide (s (34 + k) = -1 ∧ s (24 + k) = t) = true then 2 ^ k.toNat else 0) : Nat) : Int)))), some (.int (zI ((k + 1))))] (0, 0) (mkS w (hI S1) J)
      rw [e_X10_town_47]
      have e := h2 (34 + k) (by unfold Vd; omega)
      have e0 := h2 (24 + k) (by unfold Vd; omega)
      obtain ⟨v3, v4, -, -, v1, v2, -⟩ := hv.2.1 k (by omega) (by omega)
      by_cases q : s (34 + k) = -1
      · by_cases q2 : s (24 + k) = t
        · simp (disch := omega) only [hk, hu, hI_n, hI_un, z_nat, em_d, zl, z_add, z_sub, z_mul, z_lt, z_eq, gI_mk, gJ_mk, cI_some, cV_some, cJ_some, cI_x, cV_x, cJ_x, uS_self, uS_ne, if_pos, if_neg, b01, b01n, ite_not, if_true, if_false, a3, e, e0, q, q2, z_shl1, z_or, z_or0, decide_true, decide_false, Bool.false_eq_true, Nat.or_zero, not_true_eq_false, not_false_eq_true, eq_self, and_self]
        · simp (disch := omega) only [hk, hu, hI_n, hI_un, z_nat, em_d, zl, z_add, z_sub, z_mul, z_lt, z_eq, gI_mk, gJ_mk, cI_some, cV_some, cJ_some, cI_x, cV_x, cJ_x, uS_self, uS_ne, if_pos, if_neg, b01, b01n, ite_not, if_true, if_false, a3, e, e0, q, q2, z_shl1, z_or, z_or0, decide_true, decide_false, Bool.false_eq_true, Nat.or_zero, not_true_eq_false, not_false_eq_true, eq_self, and_false]
      · simp (disch := omega) only [hk, hu, hI_n, hI_un, z_nat, em_d, zl, z_add, z_sub, z_mul, z_lt, z_eq, gI_mk, gJ_mk, cI_some, cV_some, cJ_some, cI_x, cV_x, cJ_x, uS_self, uS_ne, if_pos, if_neg, b01, b01n, ite_not, if_true, if_false, a3, e, e0, q, z_shl1, z_or, z_or0, decide_true, decide_false, Bool.false_eq_true, Nat.or_zero, not_true_eq_false, not_false_eq_true, eq_self, false_and]
    · obtain ⟨n, rfl⟩ : ∃ n', n = n' + 1 := ⟨n - 1, by omega⟩
      show aR X (d + 2) m_X10_town (n + 1) 47 [some (.ref 132), some (.int (zI t)), some (.int (zI 1)), some (.int (zI m)), some (.int (zI nC))] (0, 0) (mkS w (hI S1) J) = _
      rw [e_X10_town_47]
      simp (disch := omega) only [hk, hu, hI_n, hI_un, z_nat, em_d, zl, z_add, z_sub, z_mul, z_lt, z_eq, gI_mk, gJ_mk, cI_some, cV_some, cJ_some, cI_x, cV_x, cJ_x, uS_self, uS_ne, if_pos, if_neg, b01, b01n, ite_not, if_true, if_false, a3, rI_d]
theorem m_townN (hL : LdP S nT nR nC rd) {t p : Int} (hr : -2147483648 ≤ t ∧ t < 2147483648) (ht : ¬ (0 ≤ t ∧ t < nT)) : am_call X aP (d + 3) 219 [.ref 132, .int (zI t), .int (zI p)] (mkS w (hI S) J) = some (.inl (some (.int (zI 0))), (mkS w (hI (mxN S)) J)) := by
  rw [go_X10_town, e_X10_town_0, z_0, hu.1, m_isTown0 (LdP_q hL (QuM_0 S)) (uS_self _ _ _ _) hr ht]
  simp (disch := omega) only [hk, hu, hI_n, hI_un, z_nat, em_d, zl, z_add, z_sub, z_mul, z_lt, z_eq, gI_mk, gJ_mk, cI_some, cV_some, cJ_some, cI_x, cV_x, cJ_x, uS_self, uS_ne, if_pos, if_neg, b01, b01n, ite_not, if_true, if_false, rI_d]
  rfl
theorem m_townB (hL : LdP S nT nR nC rd) {t p : Int} (ht : 0 ≤ t ∧ t < nT) (hr : -2147483648 ≤ p ∧ p < 2147483648) (hp : ¬ (0 ≤ p ∧ p ≤ 1)) : am_call X aP (d + 3) 219 [.ref 132, .int (zI t), .int (zI p)] (mkS w (hI S) J) = some (.inl (some (.int (zI 0))), (mkS w (hI (mxB S 2)) J)) := by
  rw [go_X10_town, e_X10_town_0, z_0, hu.1, m_isTown1 (LdP_q hL (QuM_0 S)) (uS_self _ _ _ _) ht]
  simp (disch := omega) only [hk, hu, hI_n, hI_un, z_nat, em_d, zl, z_add, z_sub, z_mul, z_lt, z_eq, gI_mk, gJ_mk, cI_some, cV_some, cJ_some, cI_x, cV_x, cJ_x, uS_self, uS_ne, if_pos, if_neg, b01, b01n, ite_not, if_true, if_false, m_within]
  rw [m_may0 (uS_self _ _ _ _) (by decide) (by decide)]
  simp (disch := omega) only [hk, hu, hI_n, hI_un, z_nat, em_d, zl, z_add, z_sub, z_mul, z_lt, z_eq, gI_mk, gJ_mk, cI_some, cV_some, cJ_some, cI_x, cV_x, cJ_x, uS_self, uS_ne, if_pos, if_neg, b01, b01n, ite_not, if_true, if_false, rI_d]
  rfl
theorem m_road (hL : LdP S nT nR nC rd) (hn : NwP nR nC S s) (hv : Sc nR nC s) (hc : CdP S cd) {r p : Int} (ht : 0 ≤ r ∧ r < nR) (hp : 0 ≤ p ∧ p ≤ 7) : ∃ S', am_call X aP (d + 6) 220 [.ref 132, .int (zI r), .int (zI p)] (mkS w (hI S) J) = some (.inl (some (.int (zI (roadV cd nC rd s r p)))), (mkS w (hI S') J)) ∧ QuM S S' := by
  have hq0 := QuM_0 S
  have hL1 := LdP_q hL hq0
  obtain ⟨S1, h1, h2, h3⟩ := m_takeP (X := X) (d := d + 3) (w := w) (J := J) (NwP_q hn hq0) hL.2.2.2.2.2.2.2.1 hL.2.2.2.2.2.2.2.2.2.1
  have hq1 := QuM_fr hq0 h3 (by decide) (by decide)
  have hL2 := LdP_q hL hq1
  have hc2 := CdP_q hc hq1
  obtain ⟨a1, a2, a3, a4, a5, a6, a7, a8, a9, a10, a11⟩ := id hL2
  obtain ⟨-, -, t1, t2, -⟩ := id hv
  have e3 := a4 (4 * r) (by omega) (by omega)
  have e4 := a4 (4 * r + 1) (by omega) (by omega)
  have e5 := a4 (4 * r + 2) (by omega) (by omega)
  have e1 := h2 r (by unfold Vd; omega)
  have e2 := h2 (12 + r) (by unfold Vd; omega)
  have ho := fun d => m_cartersOn (X := X) (d := d) (w := w) (J := J) hL2 h2 (Sc_on hv a8) (r := r) (by omega)
  obtain ⟨S2, g1, g2⟩ := m_paceBy (X := X) (d := d) (w := w) (J := J) hL2 h2 (Sc_on hv a8) (fun r r1 r2 => (Sc_w hv).1 r r1 r2) (by omega) hc2 ht
  obtain ⟨S3, g3, g4⟩ := m_plainOf (X := X) (d := d) (w := w) (J := J) hL2 hc2 ht
  rw [go_X10_road, e_X10_road_0, z_0, hu.1, m_isRoad1 hL1 (uS_self _ _ _ _) ht]
  simp (disch := omega) only [hk, hu, hI_n, hI_un, z_nat, em_d, zl, z_add, z_sub, z_mul, z_lt, z_eq, gI_mk, gJ_mk, cI_some, cV_some, cJ_some, cI_x, cV_x, cJ_x, uS_self, uS_ne, if_pos, if_neg, b01, b01n, ite_not, if_true, if_false, m_within]
  rw [m_may1 (uS_self _ _ _ _)]
  simp (disch := omega) only [hk, hu, hI_n, hI_un, z_nat, em_d, zl, z_add, z_sub, z_mul, z_lt, z_eq, gI_mk, gJ_mk, cI_some, cV_some, cJ_some, cI_x, cV_x, cJ_x, uS_self, uS_ne, if_pos, if_neg, b01, b01n, ite_not, if_true, if_false]
  rw [h1]
  unfold roadV
  have : p = 0 ∨ p = 1 ∨ p = 2 ∨ p = 3 ∨ p = 4 ∨ p = 5 ∨ p = 6 ∨ p = 7 := by omega
  rcases this with rfl | rfl | rfl | rfl | rfl | rfl | rfl | rfl
  · exact ⟨S1, by simp (disch := omega) only [hk, hu, hI_n, hI_un, z_nat, em_d, zl, z_add, z_sub, z_mul, z_lt, z_eq, gI_mk, gJ_mk, cI_some, cV_some, cJ_some, cI_x, cV_x, cJ_x, uS_self, uS_ne, if_pos, if_neg, b01, b01n, ite_not, if_true, if_false, Int.add_zero, e3, rI_d], hq1⟩
  · exact ⟨S1, by simp (disch := omega) only [hk, hu, hI_n, hI_un, z_nat, em_d, zl, z_add, z_sub, z_mul, z_lt, z_eq, gI_mk, gJ_mk, cI_some, cV_some, cJ_some, cI_x, cV_x, cJ_x, uS_self, uS_ne, if_pos, if_neg, b01, b01n, ite_not, if_true, if_false, e4, rI_d], hq1⟩
  · exact ⟨S1, by simp (disch := omega) only [hk, hu, hI_n, hI_un, z_nat, em_d, zl, z_add, z_sub, z_mul, z_lt, z_eq, gI_mk, gJ_mk, cI_some, cV_some, cJ_some, cI_x, cV_x, cJ_x, uS_self, uS_ne, if_pos, if_neg, b01, b01n, ite_not, if_true, if_false, e5, rI_d], hq1⟩
  · exact ⟨S1, by simp (disch := omega) only [hk, hu, hI_n, hI_un, z_nat, em_d, zl, z_add, z_sub, z_mul, z_lt, z_eq, gI_mk, gJ_mk, cI_some, cV_some, cJ_some, cI_x, cV_x, cJ_x, uS_self, uS_ne, if_pos, if_neg, b01, b01n, ite_not, if_true, if_false, Int.zero_add, e1, rI_d], hq1⟩
  · exact ⟨S1, by simp (disch := omega) only [hk, hu, hI_n, hI_un, z_nat, em_d, zl, z_add, z_sub, z_mul, z_lt, z_eq, gI_mk, gJ_mk, cI_some, cV_some, cJ_some, cI_x, cV_x, cJ_x, uS_self, uS_ne, if_pos, if_neg, b01, b01n, ite_not, if_true, if_false, e2, rI_d], hq1⟩
  · exact ⟨S1, by simp (disch := omega) only [hk, hu, hI_n, hI_un, z_nat, em_d, zl, z_add, z_sub, z_mul, z_lt, z_eq, gI_mk, gJ_mk, cI_some, cV_some, cJ_some, cI_x, cV_x, cJ_x, uS_self, uS_ne, if_pos, if_neg, b01, b01n, ite_not, if_true, if_false, ho, rI_d], hq1⟩
  · exact ⟨S2, by simp (disch := omega) only [hk, hu, hI_n, hI_un, z_nat, em_d, zl, z_add, z_sub, z_mul, z_lt, z_eq, gI_mk, gJ_mk, cI_some, cV_some, cJ_some, cI_x, cV_x, cJ_x, uS_self, uS_ne, if_pos, if_neg, b01, b01n, ite_not, if_true, if_false, g1, rI_d], QuM_fr hq1 g2 (by decide) (by decide)⟩
  · exact ⟨S3, by simp (disch := omega) only [hk, hu, hI_n, hI_un, z_nat, em_d, zl, z_add, z_sub, z_mul, z_lt, z_eq, gI_mk, gJ_mk, cI_some, cV_some, cJ_some, cI_x, cV_x, cJ_x, uS_self, uS_ne, if_pos, if_neg, b01, b01n, ite_not, if_true, if_false, g3, rI_d], QuM_fr hq1 g4 (by decide) (by decide)⟩
theorem m_roadN (hL : LdP S nT nR nC rd) {t p : Int} (hr : -2147483648 ≤ t ∧ t < 2147483648) (ht : ¬ (0 ≤ t ∧ t < nR)) : am_call X aP (d + 6) 220 [.ref 132, .int (zI t), .int (zI p)] (mkS w (hI S) J) = some (.inl (some (.int (zI 0))), (mkS w (hI (mxN S)) J)) := by
  rw [go_X10_road, e_X10_road_0, z_0, hu.1, m_isRoad0 (LdP_q hL (QuM_0 S)) (uS_self _ _ _ _) hr ht]
  simp (disch := omega) only [hk, hu, hI_n, hI_un, z_nat, em_d, zl, z_add, z_sub, z_mul, z_lt, z_eq, gI_mk, gJ_mk, cI_some, cV_some, cJ_some, cI_x, cV_x, cJ_x, uS_self, uS_ne, if_pos, if_neg, b01, b01n, ite_not, if_true, if_false, rI_d]
  rfl
theorem m_roadB (hL : LdP S nT nR nC rd) {t p : Int} (ht : 0 ≤ t ∧ t < nR) (hr : -2147483648 ≤ p ∧ p < 2147483648) (hp : ¬ (0 ≤ p ∧ p ≤ 7)) : am_call X aP (d + 6) 220 [.ref 132, .int (zI t), .int (zI p)] (mkS w (hI S) J) = some (.inl (some (.int (zI 0))), (mkS w (hI (mxB S 2)) J)) := by
  rw [go_X10_road, e_X10_road_0, z_0, hu.1, m_isRoad1 (LdP_q hL (QuM_0 S)) (uS_self _ _ _ _) ht]
  simp (disch := omega) only [hk, hu, hI_n, hI_un, z_nat, em_d, zl, z_add, z_sub, z_mul, z_lt, z_eq, gI_mk, gJ_mk, cI_some, cV_some, cJ_some, cI_x, cV_x, cJ_x, uS_self, uS_ne, if_pos, if_neg, b01, b01n, ite_not, if_true, if_false, m_within]
  rw [m_may0 (uS_self _ _ _ _) (by decide) (by decide)]
  simp (disch := omega) only [hk, hu, hI_n, hI_un, z_nat, em_d, zl, z_add, z_sub, z_mul, z_lt, z_eq, gI_mk, gJ_mk, cI_some, cV_some, cJ_some, cI_x, cV_x, cJ_x, uS_self, uS_ne, if_pos, if_neg, b01, b01n, ite_not, if_true, if_false, rI_d]
  rfl
theorem m_carter (hL : LdP S nT nR nC rd) (hn : NwP nR nC S s) {c p : Int} (ht : 0 ≤ c ∧ c < nC) (hp : 0 ≤ p ∧ p ≤ 4) : ∃ S', am_call X aP (d + 3) 221 [.ref 132, .int (zI c), .int (zI p)] (mkS w (hI S) J) = some (.inl (some (.int (zI (carterV s c p)))), (mkS w (hI S') J)) ∧ QuM S S' := by
  have hq0 := QuM_0 S
  have hL1 := LdP_q hL hq0
  have h5 := hL.2.2.2.2.2.2.2.2.2.1
  have e1 := hn (24 + c) (by unfold Vd; omega)
  have e2 := hn (29 + c) (by unfold Vd; omega)
  have e3 := hn (34 + c) (by unfold Vd; omega)
  have e4 := hn (39 + c) (by unfold Vd; omega)
  have e5 := hn (44 + c) (by unfold Vd; omega)
  refine ⟨_, ?_, hq0⟩
  rw [go_X10_carter, e_X10_carter_0, z_0, hu.1, m_isCarter1 hL1 (uS_self _ _ _ _) ht]
  simp (disch := omega) only [hk, hu, hI_n, hI_un, z_nat, em_d, zl, z_add, z_sub, z_mul, z_lt, z_eq, gI_mk, gJ_mk, cI_some, cV_some, cJ_some, cI_x, cV_x, cJ_x, uS_self, uS_ne, if_pos, if_neg, b01, b01n, ite_not, if_true, if_false, m_within]
  rw [m_may1 (uS_self _ _ _ _)]
  unfold carterV
  have : p = 0 ∨ p = 1 ∨ p = 2 ∨ p = 3 ∨ p = 4 := by omega
  rcases this with rfl | rfl | rfl | rfl | rfl <;> simp (disch := omega) only [hk, hu, hI_n, hI_un, z_nat, em_d, zl, z_add, z_sub, z_mul, z_lt, z_eq, gI_mk, gJ_mk, cI_some, cV_some, cJ_some, cI_x, cV_x, cJ_x, uS_self, uS_ne, if_pos, if_neg, b01, b01n, ite_not, if_true, if_false, e1, e2, e3, e4, e5, rI_d]
theorem m_carterN (hL : LdP S nT nR nC rd) {t p : Int} (hr : -2147483648 ≤ t ∧ t < 2147483648) (ht : ¬ (0 ≤ t ∧ t < nC)) : am_call X aP (d + 3) 221 [.ref 132, .int (zI t), .int (zI p)] (mkS w (hI S) J) = some (.inl (some (.int (zI 0))), (mkS w (hI (mxN S)) J)) := by
  rw [go_X10_carter, e_X10_carter_0, z_0, hu.1, m_isCarter0 (LdP_q hL (QuM_0 S)) (uS_self _ _ _ _) hr ht]
  simp (disch := omega) only [hk, hu, hI_n, hI_un, z_nat, em_d, zl, z_add, z_sub, z_mul, z_lt, z_eq, gI_mk, gJ_mk, cI_some, cV_some, cJ_some, cI_x, cV_x, cJ_x, uS_self, uS_ne, if_pos, if_neg, b01, b01n, ite_not, if_true, if_false, rI_d]
  rfl
theorem m_carterB (hL : LdP S nT nR nC rd) {t p : Int} (ht : 0 ≤ t ∧ t < nC) (hr : -2147483648 ≤ p ∧ p < 2147483648) (hp : ¬ (0 ≤ p ∧ p ≤ 4)) : am_call X aP (d + 3) 221 [.ref 132, .int (zI t), .int (zI p)] (mkS w (hI S) J) = some (.inl (some (.int (zI 0))), (mkS w (hI (mxB S 2)) J)) := by
  rw [go_X10_carter, e_X10_carter_0, z_0, hu.1, m_isCarter1 (LdP_q hL (QuM_0 S)) (uS_self _ _ _ _) ht]
  simp (disch := omega) only [hk, hu, hI_n, hI_un, z_nat, em_d, zl, z_add, z_sub, z_mul, z_lt, z_eq, gI_mk, gJ_mk, cI_some, cV_some, cJ_some, cI_x, cV_x, cJ_x, uS_self, uS_ne, if_pos, if_neg, b01, b01n, ite_not, if_true, if_false, m_within]
  rw [m_may0 (uS_self _ _ _ _) (by decide) (by decide)]
  simp (disch := omega) only [hk, hu, hI_n, hI_un, z_nat, em_d, zl, z_add, z_sub, z_mul, z_lt, z_eq, gI_mk, gJ_mk, cI_some, cV_some, cJ_some, cI_x, cV_x, cJ_x, uS_self, uS_ne, if_pos, if_neg, b01, b01n, ite_not, if_true, if_false, rI_d]
  rfl
theorem ifw {α : Type} (P : Prop) [Decidable P] (x y : α) : (if zI (if P then 1 else 0) = zI 0 then x else y) = if P then y else x := by
  by_cases h : P
  · rw [if_pos h, if_pos h, if_neg (by decide)]
  · rw [if_neg h, if_neg h, if_pos rfl]
theorem mk_mk (I : Nat → Nat → Int32) : mkS w (gI (mkS w I J)) (gJ (mkS w I J)) = mkS w I J := rfl
theorem m_would (hc : CdP S cd) {a b c e f g h i : Int} (hok : okWould a b c e f g h i) : ∃ S', am_call X aP (d + 5) 222 [.ref 132, .int (zI a), .int (zI b), .int (zI c), .int (zI e), .int (zI f), .int (zI g), .int (zI h), .int (zI i)] (mkS w (hI S) J) = some (.inl (some (.int (zI (paceZ cd (fc a b c e f g h i))))), (mkS w (hI S') J)) ∧ QuM S S' := by
  obtain ⟨o1, o2, o3, o4, o5, o6, o7, o8⟩ := hok
  have hq0 := QuM_0 S
  obtain ⟨S', h1, h2⟩ := m_paceOf (X := X) (d := d) (w := w) (J := J) (CdP_q hc hq0) a b c e f g h i
  refine ⟨S', ?_, QuM_fr hq0 h2 (by decide) (by decide)⟩
  rw [go_X10_would, e_X10_would_0]
  simp only [zl, hu]
  rw [m_within (by omega) (by omega) (by omega), cI_some, ifw, if_pos o1, mk_mk]
  rw [m_within (by omega) (by omega) (by omega), cI_some, ifw, if_pos o2, mk_mk]
  rw [m_within (by omega) (by omega) (by omega), cI_some, ifw, if_pos o3, mk_mk]
  rw [m_within (by omega) (by omega) (by omega), cI_some, ifw, if_pos o4, mk_mk]
  rw [m_within (by omega) (by omega) (by omega), cI_some, ifw, if_pos o5, mk_mk]
  rw [m_within (by omega) (by omega) (by omega), cI_some, ifw, if_pos o6, mk_mk]
  rw [m_within (by omega) (by omega) (by omega), cI_some, ifw, if_pos o7, mk_mk]
  rw [m_within (by omega) (by omega) (by omega), cI_some, ifw, if_pos o8, mk_mk]
  rw [m_may1 (uS_self _ _ _ _), cI_some, if_neg (by decide), mk_mk, h1, cI_some]
  rfl
theorem m_would0 {a b c e f g h i : Int} (ha : -2147483648 ≤ a ∧ a < 2147483648) (hb : -2147483648 ≤ b ∧ b < 2147483648) (hc : -2147483648 ≤ c ∧ c < 2147483648) (he : -2147483648 ≤ e ∧ e < 2147483648) (hf : -2147483648 ≤ f ∧ f < 2147483648) (hg : -2147483648 ≤ g ∧ g < 2147483648) (hh : -2147483648 ≤ h ∧ h < 2147483648) (hi : -2147483648 ≤ i ∧ i < 2147483648) (hok : ¬ okWould a b c e f g h i) : am_call X aP (d + 5) 222 [.ref 132, .int (zI a), .int (zI b), .int (zI c), .int (zI e), .int (zI f), .int (zI g), .int (zI h), .int (zI i)] (mkS w (hI S) J) = some (.inl (some (.int (zI 0))), (mkS w (hI (mxB S 1)) J)) := by
  have hm := fun d => m_may0 (X := X) (d := d) (w := w) (J := J) (S := uS S 132 0 0) (uS_self _ _ _ _) (cd := 1) (k := 1) (by decide) (by decide)
  rw [go_X10_would, e_X10_would_0]
  simp only [zl, hu]
  rw [m_within (by omega) (by omega) (by omega), cI_some, ifw, mk_mk]
  by_cases o1 : 1 ≤ a ∧ a ≤ 40
  case neg =>
    rw [if_neg o1, hm, cI_some, if_pos rfl, mk_mk]
    rfl
  rw [if_pos o1]
  rw [m_within (by omega) (by omega) (by omega), cI_some, ifw, mk_mk]
  by_cases o2 : 0 ≤ b ∧ b ≤ 999
  case neg =>
    rw [if_neg o2, hm, cI_some, if_pos rfl, mk_mk]
    rfl
  rw [if_pos o2]
  rw [m_within (by omega) (by omega) (by omega), cI_some, ifw, mk_mk]
  by_cases o3 : 0 ≤ c ∧ c ≤ 495
  case neg =>
    rw [if_neg o3, hm, cI_some, if_pos rfl, mk_mk]
    rfl
  rw [if_pos o3]
  rw [m_within (by omega) (by omega) (by omega), cI_some, ifw, mk_mk]
  by_cases o4 : 0 ≤ e ∧ e ≤ 5
  case neg =>
    rw [if_neg o4, hm, cI_some, if_pos rfl, mk_mk]
    rfl
  rw [if_pos o4]
  rw [m_within (by omega) (by omega) (by omega), cI_some, ifw, mk_mk]
  by_cases o5 : 0 ≤ f ∧ f ≤ 7
  case neg =>
    rw [if_neg o5, hm, cI_some, if_pos rfl, mk_mk]
    rfl
  rw [if_pos o5]
  rw [m_within (by omega) (by omega) (by omega), cI_some, ifw, mk_mk]
  by_cases o6 : 0 ≤ g ∧ g ≤ 6
  case neg =>
    rw [if_neg o6, hm, cI_some, if_pos rfl, mk_mk]
    rfl
  rw [if_pos o6]
  rw [m_within (by omega) (by omega) (by omega), cI_some, ifw, mk_mk]
  by_cases o7 : 0 ≤ h ∧ h ≤ 100
  case neg =>
    rw [if_neg o7, hm, cI_some, if_pos rfl, mk_mk]
    rfl
  rw [if_pos o7]
  rw [m_within (by omega) (by omega) (by omega), cI_some, ifw, mk_mk]
  by_cases o8 : 0 ≤ i ∧ i ≤ 11
  case neg =>
    rw [if_neg o8, hm, cI_some, if_pos rfl, mk_mk]
    rfl
  rw [if_pos o8]
  exact absurd ⟨o1, o2, o3, o4, o5, o6, o7, o8⟩ hok
end MRD
