/-! THE REFERENCE: more loops; setting out, turning, an hour, a step -/
theorem loopE {α : Type} (R : Nat → Int → α → aRes) (V : Int → α → Prop) (K : Int) (c1 : Nat) (step : ∀ k T, 0 ≤ k → k < K → V k T → ∃ T', V (k + 1) T' ∧ ∀ n, c1 ≤ n → ∃ n', n ≤ n' + c1 ∧ R n k T = R n' (k + 1) T') : ∀ (j : Nat) (k : Int) (T : α), 0 ≤ k → k + j = K → V k T → ∃ T', V K T' ∧ ∀ n, c1 * j ≤ n → ∃ n', n ≤ n' + c1 * j ∧ R n k T = R n' K T'
  | 0, k, T, _, h, hv => by
    have : k = K := by omega
    subst this
    exact ⟨T, hv, fun n _ => ⟨n, by omega, rfl⟩⟩
  | j + 1, k, T, h0, h, hv => by
    have hc : c1 * (j + 1) = c1 * j + c1 := Nat.mul_succ _ _
    obtain ⟨T1, h1, h2⟩ := step k T h0 (by omega) hv
    obtain ⟨T2, h3, h4⟩ := loopE R V K c1 step j (k + 1) T1 (by omega) (by omega) h1
    refine ⟨T2, h3, fun n hn => ?_⟩
    obtain ⟨n1, h5, h6⟩ := h2 n (by omega)
    obtain ⟨n2, h7, h8⟩ := h4 n1 (by omega)
    exact ⟨n2, by omega, h6.trans h8⟩
theorem sumZ_congr {f g : Int → Int} : ∀ n : Nat, (∀ k : Int, 0 ≤ k → k < n → f k = g k) → sumZ f n = sumZ g n
  | 0, _ => rfl
  | n + 1, h => by
    show sumZ f n + f n = sumZ g n + g n
    rw [sumZ_congr n (fun k h1 h2 => h k h1 (by omega)), h n (by omega) (by omega)]
theorem sumZ_r {f : Int → Int} {a b : Int} : ∀ n : Nat, (∀ k : Int, 0 ≤ k → k < n → a ≤ f k ∧ f k ≤ b) → n * a ≤ sumZ f n ∧ sumZ f n ≤ n * b
  | 0, _ => by
    show ((0 : Nat) : Int) * a ≤ 0 ∧ 0 ≤ ((0 : Nat) : Int) * b
    simp
  | n + 1, h => by
    have h1 := sumZ_r n (fun k h1 h2 => h k h1 (by omega))
    have h2 := h n (by omega) (by omega)
    show ((n + 1 : Nat) : Int) * a ≤ sumZ f n + f n ∧ sumZ f n + f n ≤ ((n + 1 : Nat) : Int) * b
    rw [Int.natCast_add, Int.add_mul, Int.add_mul]
    omega
theorem sumZ_more {f : Int → Int} : ∀ m n : Nat, (∀ k : Int, n ≤ k → f k = 0) → sumZ f (n + m) = sumZ f n
  | 0, n, _ => rfl
  | m + 1, n, h => by
    show sumZ f (n + m) + f ((n + m : Nat) : Int) = _
    rw [sumZ_more m n h, h _ (by omega), Int.add_zero]
theorem fold_sum (f : Int → Int) (n : Nat) : fold (fun k a => a + f k) n 0 0 = sumZ f n := by
  induction n with
  | zero => rfl
  | succ n ih =>
    rw [fold_succ, ih, show (0 : Int) + (n : Int) = (n : Int) by omega]
    rfl
def popc (m : Nat) : Int := sumZ (fun k => if m.testBit k.toNat = true then 1 else 0) 12
theorem popc_bits (p : Int → Bool) (n : Nat) (hn : n ≤ 12) : popc (bits p n) = sumZ (fun k => if p k = true then 1 else 0) n := by
  have e : sumZ (fun k => if (bits p n).testBit k.toNat = true then (1 : Int) else 0) (n + (12 - n)) = sumZ (fun k => if (bits p n).testBit k.toNat = true then 1 else 0) n := sumZ_more (12 - n) n (fun k hk => by
    show (if (bits p n).testBit k.toNat = true then (1 : Int) else 0) = 0
    rw [bits_test, if_neg]
    simp
    intro h
    omega)
  unfold popc
  rw [show 12 = n + (12 - n) by omega, e]
  apply sumZ_congr
  intro k h1 h2
  show (if (bits p n).testBit k.toNat = true then (1 : Int) else 0) = _
  rw [bits_test, Int.toNat_of_nonneg h1, decide_eq_true (show k.toNat < n by omega), Bool.true_and]
theorem onB_congr {nC : Int} {s s' : Int → Int} (h : ∀ c, 0 ≤ c → c < nC → s' (34 + c) = s (34 + c)) (r : Int) (h5 : 0 ≤ nC) : onB nC s' r = onB nC s r := bits_congr _ (fun c h1 h2 => by
  show decide (s' (34 + c) = r) = decide (s (34 + c) = r)
  rw [h c h1 (by omega)])
theorem Sc_on {nR nC : Int} {s : Int → Int} (h : Sc nR nC s) (hR : nR ≤ 12) : OnR nC s := fun c h1 h2 => by
  obtain ⟨-, -, -, -, v1, v2, -⟩ := h.2.1 c h1 h2
  omega
section MSE
variable {X : Nat × (Nat → Int32)} {d : Nat} {w : Bool × Bool × Bool} {S : Hp} {J : Nat → Nat → Int64} {nT nR nC : Int} {rd s : Int → Int} {cd : List (Int × Int)}
theorem m_ones {m : Nat} (hm : m < 2147483648) : am_call X aP (d + 1) 201 [.int (zI ((m : Int)))] (mkS w (hI S) J) = some (.inl (some (.int (zI (popc m)))), (mkS w (hI S) J)) := by
  rw [go_X10_ones, e_X10_ones_0]
  have h := loopA (fun n k a => aR X d m_X10_ones n 4 [some (.int (zI ((m : Int)))), some (.int (zI a)), some (.int (zI k))] (0, 0) (mkS w (hI S) J)) (fun k a => a + (if m.testBit k.toNat = true then 1 else 0)) (fun _ _ => True) 12 1 (fun a => some (.inl (some (.int (zI a))), (mkS w (hI S) J))) (fun n k a q1 q2 _ => by
    show aR X d m_X10_ones (n + 1) 4 [some (.int (zI ((m : Int)))), some (.int (zI a)), some (.int (zI k))] (0, 0) (mkS w (hI S) J) = aR X d m_X10_ones n 4 [some (.int (zI ((m : Int)))), some (.int (zI ((a + (if m.testBit k.toNat = true then 1 else 0))))), some (.int (zI ((k + 1))))] (0, 0) (mkS w (hI S) J)
    rw [e_X10_ones_4]
    simp (disch := omega) only [hk, hu, hI_n, hI_un, z_nat, em_d, zl, z_add, z_sub, z_mul, z_lt, z_eq, gI_mk, gJ_mk, cI_some, cV_some, cJ_some, cI_x, cV_x, cJ_x, uS_self, uS_ne, if_pos, if_neg, b01, b01n, ite_not, if_true, if_false, z_bit]) (fun _ _ _ _ _ => trivial) (fun n a q1 _ => by
    obtain ⟨n, rfl⟩ : ∃ n', n = n' + 1 := ⟨n - 1, by omega⟩
    show aR X d m_X10_ones (n + 1) 4 [some (.int (zI ((m : Int)))), some (.int (zI a)), some (.int (zI 12))] (0, 0) (mkS w (hI S) J) = _
    rw [e_X10_ones_4]
    simp (disch := omega) only [hk, hu, hI_n, hI_un, z_nat, em_d, zl, z_add, z_sub, z_mul, z_lt, z_eq, gI_mk, gJ_mk, cI_some, cV_some, cJ_some, cI_x, cV_x, cJ_x, uS_self, uS_ne, if_pos, if_neg, b01, b01n, ite_not, if_true, if_false, rI_d]) 12 0 0 (by omega) (by omega) trivial 9999999 (by omega)
  rw [fold_sum] at h
  simp only [zl]
  exact h
theorem m_goesFrom (hL : LdP S nT nR nC rd) {r t : Int} (hr : 0 ≤ r ∧ r < nR) (ht : -100 ≤ t ∧ t < 100) : am_call X aP (d + 1) 206 [.ref 132, .int (zI r), .int (zI t)] (mkS w (hI S) J) = some (.inl (some (.int (zI (if goesF rd r t then 1 else 0)))), (mkS w (hI S) J)) := by
  obtain ⟨a1, a2, a3, a4, a5, a6, a7, a8, a9, a10, a11⟩ := hL
  have e1 := a4 (4 * r) (by omega) (by omega)
  have e2 := a4 (4 * r + 1) (by omega) (by omega)
  obtain ⟨b1, b2, b3, b4, b5, b6⟩ := a11 r (by omega) (by omega)
  rw [go_X10_goesFrom, e_X10_goesFrom_0]
  simp (disch := omega) only [hk, hu, hI_n, hI_un, z_nat, em_d, zl, z_add, z_sub, z_mul, z_lt, z_eq, gI_mk, gJ_mk, cI_some, cV_some, cJ_some, cI_x, cV_x, cJ_x, uS_self, uS_ne, if_pos, if_neg, b01, b01n, ite_not, if_true, if_false, e1, e2, rI_d]
  by_cases q1 : rd (4 * r) = t
  · rw [if_pos q1, if_pos (show goesF rd r t from Or.inl q1)]
  · rw [if_neg q1]
    by_cases q2 : rd (4 * r + 1) = t
    · rw [if_pos q2, if_pos (show goesF rd r t from Or.inr q2)]
    · rw [if_neg q2, if_neg (show ¬ goesF rd r t from fun z => by rcases z with z | z; exact q1 z; exact q2 z)]
theorem m_otherOf (hL : LdP S nT nR nC rd) {r t : Int} (hr : 0 ≤ r ∧ r < nR) (ht : -100 ≤ t ∧ t < 100) : am_call X aP (d + 1) 205 [.ref 132, .int (zI r), .int (zI t)] (mkS w (hI S) J) = some (.inl (some (.int (zI (othF rd r t)))), (mkS w (hI S) J)) := by
  obtain ⟨a1, a2, a3, a4, a5, a6, a7, a8, a9, a10, a11⟩ := hL
  have e1 := a4 (4 * r) (by omega) (by omega)
  have e2 := a4 (4 * r + 1) (by omega) (by omega)
  obtain ⟨b1, b2, b3, b4, b5, b6⟩ := a11 r (by omega) (by omega)
  rw [go_X10_otherOf, e_X10_otherOf_0]
  unfold othF
  simp (disch := omega) only [hk, hu, hI_n, hI_un, z_nat, em_d, zl, z_add, z_sub, z_mul, z_lt, z_eq, gI_mk, gJ_mk, cI_some, cV_some, cJ_some, cI_x, cV_x, cJ_x, uS_self, uS_ne, if_pos, if_neg, b01, b01n, ite_not, if_true, if_false, e1, e2, rI_d]
  by_cases q1 : rd (4 * r) = t
  · rw [if_pos q1, if_pos q1]
  · rw [if_neg q1, if_neg q1]
theorem m_plainOf (hL : LdP S nT nR nC rd) (hc : CdP S cd) {r : Int} (hr : 0 ≤ r ∧ r < nR) : ∃ S', am_call X aP (d + 5) 204 [.ref 132, .int (zI r)] (mkS w (hI S) J) = some (.inl (some (.int (zI (plainZ cd rd r)))), (mkS w (hI S') J)) ∧ Fr [143, 144] S S' := by
  obtain ⟨S', h1, h2⟩ := m_paceOf (X := X) (d := d) (w := w) (J := J) hc (rd (4 * r + 2)) 0 0 0 0 0 0 r
  have hR := hL.2.2.2.2.2.2.2.1
  have e1 := hL.2.2.2.1 (4 * r + 2) (by omega) (by omega)
  refine ⟨S', ?_, h2⟩
  rw [go_X10_plainOf, e_X10_plainOf_0]
  simp (disch := omega) only [hk, hu, hI_n, hI_un, z_nat, em_d, zl, z_add, z_sub, z_mul, z_lt, z_eq, gI_mk, gJ_mk, cI_some, cV_some, cJ_some, cI_x, cV_x, cJ_x, uS_self, uS_ne, if_pos, if_neg, b01, b01n, ite_not, if_true, if_false, e1]
  rw [h1]
  simp only [hk, hu, hI_n, hI_un, z_nat, em_d, zl, z_add, z_sub, z_mul, z_lt, z_eq, gI_mk, gJ_mk, cI_some, cV_some, cJ_some, cI_x, cV_x, cJ_x, uS_self, uS_ne, if_pos, if_neg, b01, b01n, ite_not, if_true, if_false, rI_d]
  rfl
theorem l_paceBy_end (hL : LdP S nT nR nC rd) (hs : ScP nR nC S s) (hon : OnR nC s) (h50 : 0 ≤ s 50 ∧ s 50 < 100000) {r a : Int} (hr : 0 ≤ r ∧ r < nR) {S' : Hp} {v : Int} (h1 : am_call X aP (d + 4) 202 [.ref 132, .int (zI (rd (4 * r + 2))), .int (zI (s (12 + r))), .int (zI a), .int (zI (manyOn nC s r)), .int (zI (s 50 % 8)), .int (zI (dayOf (s 50))), .int (zI (s 50 / 56)), .int (zI r)] (mkS w (hI S) J) = some (.inl (some (.int (zI v))), (mkS w (hI S') J))) (n : Nat) : aR X (d + 4) m_X10_paceBy (n + 1) 14 [some (.ref 132), some (.int (zI r)), some (.int (zI a)), some (.int (zI nC))] (0, 0) (mkS w (hI S) J) = some (.inl (some (.int (zI v))), (mkS w (hI S') J)) := by
  have hL0 := hL
  obtain ⟨a1, a2, a3, a4, a5, a6, a7, a8, a9, a10, a11⟩ := hL
  have e50 := hs 50 (by unfold Vd; omega)
  have e1 := a4 (4 * r + 2) (by omega) (by omega)
  have e2 := hs (12 + r) (by unfold Vd; omega)
  have hb2 : onB nC s r < 2147483648 := nat_lt_two (bits_lt _ _) (by omega)
  have e3 : popc (onB nC s r) = manyOn nC s r := by
    unfold onB manyOn
    rw [popc_bits _ _ (by omega)]
    apply sumZ_congr
    intro k _ _
    simp only [decide_eq_true_eq]
  rw [e_X10_paceBy_14]
  simp (disch := omega) only [hk, hu, hI_n, hI_un, z_nat, em_d, zl, z_add, z_sub, z_mul, z_lt, z_eq, gI_mk, gJ_mk, cI_some, cV_some, cJ_some, cI_x, cV_x, cJ_x, uS_self, uS_ne, if_pos, if_neg, b01, b01n, ite_not, if_true, if_false, a3, e1, e2]
  rw [m_cartersOn hL0 hs hon (by omega)]
  simp (disch := omega) only [hk, hu, hI_n, hI_un, z_nat, em_d, zl, z_add, z_sub, z_mul, z_lt, z_eq, gI_mk, gJ_mk, cI_some, cV_some, cJ_some, cI_x, cV_x, cJ_x, uS_self, uS_ne, if_pos, if_neg, b01, b01n, ite_not, if_true, if_false]
  rw [m_ones hb2, e3]
  simp (disch := omega) only [hk, hu, hI_n, hI_un, z_nat, em_d, zl, z_add, z_sub, z_mul, z_lt, z_eq, gI_mk, gJ_mk, cI_some, cV_some, cJ_some, cI_x, cV_x, cJ_x, uS_self, uS_ne, if_pos, if_neg, b01, b01n, ite_not, if_true, if_false, e50, z_div, m_dayOf]
  rw [h1]
  simp only [hk, hu, hI_n, hI_un, z_nat, em_d, zl, z_add, z_sub, z_mul, z_lt, z_eq, gI_mk, gJ_mk, cI_some, cV_some, cJ_some, cI_x, cV_x, cJ_x, uS_self, uS_ne, if_pos, if_neg, b01, b01n, ite_not, if_true, if_false, rI_d]
theorem l_paceBy_loop (hL : LdP S nT nR nC rd) (hs : ScP nR nC S s) (hon : OnR nC s) {r : Int} (hr : 0 ≤ r ∧ r < nR) : ∃ n', aR X (d + 4) m_X10_paceBy 9999999 14 [some (.ref 132), some (.int (zI r)), some (.int (zI 0)), some (.int (zI 0))] (0, 0) (mkS w (hI S) J) = aR X (d + 4) m_X10_paceBy (n' + 1) 14 [some (.ref 132), some (.int (zI r)), some (.int (zI ((loadOn nC s r)))), some (.int (zI nC))] (0, 0) (mkS w (hI S) J) := by
  obtain ⟨a1, a2, a3, a4, a5, a6, a7, a8, a9, a10, a11⟩ := hL
  obtain ⟨-, hl⟩ := loopG (fun n k a => aR X (d + 4) m_X10_paceBy n 14 [some (.ref 132), some (.int (zI r)), some (.int (zI a)), some (.int (zI k))] (0, 0) (mkS w (hI S) J)) (fun k a => a + (if s (34 + k) = r then s (44 + k) else 0)) (fun _ _ => True) nC 1 (fun n k a q1 q2 _ h9 => by
    obtain ⟨n, rfl⟩ : ∃ n', n = n' + 1 := ⟨n - 1, by omega⟩
    refine ⟨n, by omega, ?_⟩
    show aR X (d + 4) m_X10_paceBy (n + 1) 14 [some (.ref 132), some (.int (zI r)), some (.int (zI a)), some (.int (zI k))] (0, 0) (mkS w (hI S) J) = aR X (d + 4) m_X10_paceBy n 14 [some (.ref 132), some (.int (zI r)), some (.int (zI ((a + (if s (34 + k) = r then s (44 + k) else 0))))), some (.int (zI ((k + 1))))] (0, 0) (mkS w (hI S) J)
    have e1 := hs (34 + k) (by unfold Vd; omega)
    have e2 := hs (44 + k) (by unfold Vd; omega)
    obtain ⟨v1, v2⟩ := hon k (by omega) (by omega)
    rw [e_X10_paceBy_14]
    by_cases q5 : s (34 + k) = r <;> simp (disch := omega) only [hk, hu, hI_n, hI_un, z_nat, em_d, zl, z_add, z_sub, z_mul, z_lt, z_eq, gI_mk, gJ_mk, cI_some, cV_some, cJ_some, cI_x, cV_x, cJ_x, uS_self, uS_ne, if_pos, if_neg, b01, b01n, ite_not, if_true, if_false, a3, e1, e2, q5]) (fun _ _ _ _ _ => trivial) nC.toNat 0 0 (by omega) (by omega) trivial
  obtain ⟨n', hn1, hn2⟩ := hl 9999999 (by omega)
  rw [fold_sum] at hn2
  obtain ⟨n', rfl⟩ : ∃ m, n' = m + 1 := ⟨n' - 1, by omega⟩
  exact ⟨n', hn2⟩
theorem m_paceBy (hL : LdP S nT nR nC rd) (hs : ScP nR nC S s) (hon : OnR nC s) (hv : ∀ r, 0 ≤ r → r < nR → 0 ≤ s r ∧ s r < 7) (h50 : 0 ≤ s 50 ∧ s 50 < 100000) (hc : CdP S cd) {r : Int} (hr : 0 ≤ r ∧ r < nR) : ∃ S', am_call X aP (d + 5) 203 [.ref 132, .int (zI r)] (mkS w (hI S) J) = some (.inl (some (.int (zI (pBy cd rd nC s r)))), (mkS w (hI S') J)) ∧ Fr [143, 144] S S' := by
  have a8 := hL.2.2.2.2.2.2.2.1
  have v0 := hv r hr.1 hr.2
  have e50 := hs 50 (by unfold Vd; omega)
  by_cases q : rst s r
  · refine ⟨S, ?_, Fr_rf _ _⟩
    rw [go_X10_paceBy, e_X10_paceBy_0]
    unfold pBy
    simp (disch := omega) only [hk, hu, hI_n, hI_un, z_nat, em_d, zl, z_add, z_sub, z_mul, z_lt, z_eq, gI_mk, gJ_mk, cI_some, cV_some, cJ_some, cI_x, cV_x, cJ_x, uS_self, uS_ne, if_pos, if_neg, b01, b01n, ite_not, if_true, if_false, e50, m_rests a8 hs, rI_d, q]
  · obtain ⟨S', h1, h2⟩ := m_paceOf (X := X) (d := d) (w := w) (J := J) hc (rd (4 * r + 2)) (s (12 + r)) (loadOn nC s r) (manyOn nC s r) (s 50 % 8) (dayOf (s 50)) (s 50 / 56) r
    refine ⟨S', ?_, h2⟩
    obtain ⟨n', h3⟩ := l_paceBy_loop (X := X) (d := d) (w := w) (J := J) hL hs hon hr
    rw [go_X10_paceBy, e_X10_paceBy_0]
    simp (disch := omega) only [hk, hu, hI_n, hI_un, z_nat, em_d, zl, z_add, z_sub, z_mul, z_lt, z_eq, gI_mk, gJ_mk, cI_some, cV_some, cJ_some, cI_x, cV_x, cJ_x, uS_self, uS_ne, if_pos, if_neg, b01, b01n, ite_not, if_true, if_false, e50, m_rests a8 hs, q, not_false_eq_true]
    unfold pBy
    rw [if_neg q, h3]
    exact l_paceBy_end hL hs hon h50 hr h1 n'
theorem m_isSet (hL : LdP S nT nR nC rd) (hs : ScP nR nC S s) (hon : OnR nC s) {c r : Int} (hc : 0 ≤ c ∧ c < nC) (hto : 0 ≤ s (24 + c) ∧ s (24 + c) < 7) (hr : 0 ≤ r ∧ r < nR) : ∃ S', am_call X aP (d + 2) 207 [.ref 132, .int (zI c), .int (zI r)] (mkS w (hI S) J) = some (.inl (some (.int (zI (if canSet rd s c r then 1 else 0)))), (mkS w (hI S') J)) ∧ ScP nR nC S' (if canSet rd s c r then setF rd s c r else s) ∧ Fr [148] S S' := by
  have e1 := hs (34 + c) (by unfold Vd; omega)
  have e2 := hs (24 + c) (by unfold Vd; omega)
  obtain ⟨v1, v2⟩ := hon c hc.1 hc.2
  have hC := hL.2.2.2.2.2.2.2.2.2.1
  by_cases q1 : s (34 + c) = -1
  · by_cases q2 : goesF rd r (s (24 + c))
    · have q : canSet rd s c r := ⟨q1, q2⟩
      have hL1 : LdP (uS S 148 (29 + c) (s (24 + c))) nT nR nC rd := LdP_u hL _ ⟨by decide, Or.inl (by decide)⟩
      refine ⟨uS (uS (uS (uS S 148 (29 + c) (s (24 + c))) 148 (24 + c) (othF rd r (s (24 + c)))) 148 (34 + c) r) 148 (39 + c) 0, ?_, ?_, ?_⟩
      · rw [go_X10_isSet, e_X10_isSet_0]
        simp (disch := omega) only [hk, hu, hI_n, hI_un, z_nat, em_d, zl, z_add, z_sub, z_mul, z_lt, z_eq, gI_mk, gJ_mk, cI_some, cV_some, cJ_some, cI_x, cV_x, cJ_x, uS_self, uS_ne, if_pos, if_neg, b01, b01n, ite_not, if_true, if_false, e1, e2, m_goesFrom hL, m_otherOf hL1, q1, q2, q, rI_d, not_true_eq_false, not_false_eq_true]
      · rw [if_pos q]
        intro k k1
        unfold setF
        simp only [uS_at, true_and]
        by_cases p1 : k = 39 + c
        · rw [if_pos p1, if_pos p1]
        · rw [if_neg p1, if_neg p1]
          by_cases p2 : k = 34 + c
          · rw [if_pos p2, if_pos p2]
          · rw [if_neg p2, if_neg p2]
            by_cases p3 : k = 24 + c
            · rw [if_pos p3, if_pos p3]
            · rw [if_neg p3, if_neg p3]
              by_cases p4 : k = 29 + c
              · rw [if_pos p4, if_pos p4]
              · rw [if_neg p4, if_neg p4]
                exact hs k k1
      · intro o ho
        have ho : o ≠ 148 := fun z => ho (z ▸ List.mem_singleton.mpr rfl)
        simp only [uS_row _ _ _ ho]
    · have q : ¬ canSet rd s c r := fun z => q2 z.2
      refine ⟨S, ?_, by rw [if_neg q]; exact hs, Fr_rf _ _⟩
      rw [go_X10_isSet, e_X10_isSet_0]
      simp (disch := omega) only [hk, hu, hI_n, hI_un, z_nat, em_d, zl, z_add, z_sub, z_mul, z_lt, z_eq, gI_mk, gJ_mk, cI_some, cV_some, cJ_some, cI_x, cV_x, cJ_x, uS_self, uS_ne, if_pos, if_neg, b01, b01n, ite_not, if_true, if_false, e1, e2, m_goesFrom hL, q1, q2, q, rI_d, not_true_eq_false, not_false_eq_true]
  · have q : ¬ canSet rd s c r := fun z => q1 z.1
    refine ⟨S, ?_, by rw [if_neg q]; exact hs, Fr_rf _ _⟩
    rw [go_X10_isSet, e_X10_isSet_0]
    simp (disch := omega) only [hk, hu, hI_n, hI_un, z_nat, em_d, zl, z_add, z_sub, z_mul, z_lt, z_eq, gI_mk, gJ_mk, cI_some, cV_some, cJ_some, cI_x, cV_x, cJ_x, uS_self, uS_ne, if_pos, if_neg, b01, b01n, ite_not, if_true, if_false, e1, q1, q, rI_d, not_true_eq_false, not_false_eq_true]
theorem m_isTurned (hL : LdP S nT nR nC rd) (hs : ScP nR nC S s) {c : Int} (hc : 0 ≤ c ∧ c < nC) (hC : nC ≤ 5) (hR : nR ≤ 12) (hon : -1 ≤ s (34 + c) ∧ s (34 + c) < nR) : ∃ S', am_call X aP (d + 1) 208 [.ref 132, .int (zI c)] (mkS w (hI S) J) = some (.inl (some (.int (zI (if ¬ s (34 + c) = -1 then 1 else 0)))), (mkS w (hI S') J)) ∧ ScP nR nC S' (if ¬ s (34 + c) = -1 then turnF rd s c else s) ∧ Fr [148] S S' := by
  have e1 := hs (34 + c) (by unfold Vd; omega)
  have e2 := hs (24 + c) (by unfold Vd; omega)
  have e3 := hs (29 + c) (by unfold Vd; omega)
  have e4 := hs (39 + c) (by unfold Vd; omega)
  by_cases q1 : s (34 + c) = -1
  · refine ⟨S, ?_, by rw [if_neg (fun z => z q1)]; exact hs, Fr_rf _ _⟩
    rw [go_X10_isTurned, e_X10_isTurned_0]
    simp (disch := omega) only [hk, hu, hI_n, hI_un, z_nat, em_d, zl, z_add, z_sub, z_mul, z_lt, z_eq, gI_mk, gJ_mk, cI_some, cV_some, cJ_some, cI_x, cV_x, cJ_x, uS_self, uS_ne, if_pos, if_neg, b01, b01n, ite_not, if_true, if_false, e1, q1, rI_d, not_true_eq_false]
  · have e5 := hL.2.2.2.1 (4 * s (34 + c) + 2) (by omega) (by omega)
    refine ⟨uS (uS (uS S 148 (24 + c) (s (29 + c))) 148 (29 + c) (s (24 + c))) 148 (39 + c) (rd (4 * s (34 + c) + 2) - s (39 + c)), ?_, ?_, ?_⟩
    · rw [go_X10_isTurned, e_X10_isTurned_0]
      simp (disch := omega) only [hk, hu, hI_n, hI_un, z_nat, em_d, zl, z_add, z_sub, z_mul, z_lt, z_eq, gI_mk, gJ_mk, cI_some, cV_some, cJ_some, cI_x, cV_x, cJ_x, uS_self, uS_ne, if_pos, if_neg, b01, b01n, ite_not, if_true, if_false, e1, e2, e3, e4, e5, q1, rI_d, not_false_eq_true]
    · rw [if_pos q1]
      intro k k1
      unfold turnF
      simp only [uS_at, true_and]
      by_cases p1 : k = 39 + c
      · rw [if_pos p1, if_pos p1]
      · rw [if_neg p1, if_neg p1]
        by_cases p3 : k = 29 + c
        · rw [if_pos p3, if_pos p3]
        · rw [if_neg p3, if_neg p3]
          by_cases p4 : k = 24 + c
          · rw [if_pos p4, if_pos p4]
          · rw [if_neg p4, if_neg p4]
            exact hs k k1
    · intro o ho
      have ho : o ≠ 148 := fun z => ho (z ▸ List.mem_singleton.mpr rfl)
      simp only [uS_row _ _ _ ho]
end MSE
