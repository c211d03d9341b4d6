/-! YEARS AND SPANS: the reference -/
section MYR
variable {X : Nat × (Nat → Int32)} {d : Nat} {w : Bool × Bool × Bool} {S : Hp} {J : Nat → Nat → Int64} {nT nR nC : Int} {rd s : Int → Int} {cd : List (Int × Int)}
theorem m_isYear {q m : Int} (hq : -2147483648 ≤ q ∧ q < 2147483648) (hm : -2147483648 ≤ m ∧ m < 2147483648) : am_call X aP (d + 1) 260 [.int (zI q), .int (zI m)] (mkS w (hI S) J) = some (.inl (some (.int (zI (if (0 ≤ q ∧ q ≤ 16) ∧ 1 ≤ m ∧ m ≤ 96 then 1 else 0)))), (mkS w (hI S) J)) := by
  rw [go_X10_isYear, e_X10_isYear_0]
  by_cases o1 : q < 0
  · simp (disch := omega) only [hk, hu, hI_n, hI_un, z_nat, em_d, zl, z_add, z_sub, z_mul, z_lt, z_eq, gI_mk, gJ_mk, cI_some, cV_some, cJ_some, cI_x, cV_x, cJ_x, uS_self, uS_ne, if_pos, if_neg, b01, b01n, ite_not, if_true, if_false, rI_d]
  by_cases o2 : 16 < q
  · simp (disch := omega) only [hk, hu, hI_n, hI_un, z_nat, em_d, zl, z_add, z_sub, z_mul, z_lt, z_eq, gI_mk, gJ_mk, cI_some, cV_some, cJ_some, cI_x, cV_x, cJ_x, uS_self, uS_ne, if_pos, if_neg, b01, b01n, ite_not, if_true, if_false, rI_d]
  by_cases o3 : m < 1
  · simp (disch := omega) only [hk, hu, hI_n, hI_un, z_nat, em_d, zl, z_add, z_sub, z_mul, z_lt, z_eq, gI_mk, gJ_mk, cI_some, cV_some, cJ_some, cI_x, cV_x, cJ_x, uS_self, uS_ne, if_pos, if_neg, b01, b01n, ite_not, if_true, if_false, rI_d]
  by_cases o4 : 96 < m
  · simp (disch := omega) only [hk, hu, hI_n, hI_un, z_nat, em_d, zl, z_add, z_sub, z_mul, z_lt, z_eq, gI_mk, gJ_mk, cI_some, cV_some, cJ_some, cI_x, cV_x, cJ_x, uS_self, uS_ne, if_pos, if_neg, b01, b01n, ite_not, if_true, if_false, rI_d]
  simp (disch := omega) only [hk, hu, hI_n, hI_un, z_nat, em_d, zl, z_add, z_sub, z_mul, z_lt, z_eq, gI_mk, gJ_mk, cI_some, cV_some, cJ_some, cI_x, cV_x, cJ_x, uS_self, uS_ne, if_pos, if_neg, b01, b01n, ite_not, if_true, if_false, rI_d]
theorem m_year (hL : LdP S nT nR nC rd) (hE : Ends nT nR rd) (hn : NwP nR nC S s) (hv : InvS rd nR nC s) (h50 : s 50 ≤ 5600) (hc : CdP S cd) {sd q m p : Int} (hok : okYear q m) (hp : 0 ≤ p ∧ p ≤ 3) : ∃ S', am_call X aP (d + 9) 261 [.ref 132, .int (zI sd), .int (zI q), .int (zI m), .int (zI p)] (mkS w (hI S) J) = some (.inl (some (.int (zI (yearV cd nT nR nC rd s sd q m p)))), (mkS w (hI S') J)) ∧ QuM S S' := by
  have hq0 := QuM_0 S
  obtain ⟨o1, o2, o3, o4⟩ := id hok
  obtain ⟨-, -, -, -, -, -, a7, a8, a9, a10, a11⟩ := id hL
  obtain ⟨S1, h1, h2, h3, h4⟩ := m_yearGoes (X := X) (d := d) (w := w) (J := J) (LdP_q hL hq0) (NwP_q hn hq0) hv h50 (CdP_q hc hq0) (sd := sd) ⟨o1, o2⟩ ⟨o3, o4⟩
  have hq1 := QuM_yr hq0 h3 (by decide) h4
  have hL1 := LdP_q hL hq1
  have t7 := hL1.2.1
  obtain ⟨i1, i2⟩ := inv_yr cd (q := q) (x := (s, sd)) hv a11 ⟨a7, a8⟩ ⟨a9, a10⟩ m.toNat (by show s 50 + (m.toNat : Int) ≤ 8000; omega)
  have e49 := h2 49 (by unfold Vd; omega)
  have n49 := (NwP_q hn hq1) 49 (by unfold Vd; omega)
  have g1 := fun d => m_onRoads (X := X) (d := d) (w := w) (J := J) hL1 h2 (Sc_on i1.1 a8)
  have g3 := fun d => m_joinedDays (X := X) (d := d) (w := w) (J := J) hL1 hE h2 (fun r r1 r2 => (Sc_w i1.1).1 r r1 r2)
  have hsum : ∀ p n, 14 ≤ n → ∃ n', aR X (d + 8) m_X10_year n 49 [some (.ref 132), none, none, none, some (.int (zI p)), some (.int (zI 0)), some (.int (zI 0))] (0, 0) (mkS w (hI S1) J) = aR X (d + 8) m_X10_year (n' + 1) 49 [some (.ref 132), none, none, none, some (.int (zI p)), some (.int (zI ((tiredAll nR (yrF cd rd nR nC q m.toNat (s, sd)).1)))), some (.int (zI nR))] (0, 0) (mkS w (hI S1) J) := by
    intro p n hn
    obtain ⟨-, g⟩ := loopG (fun n k a => aR X (d + 8) m_X10_year n 49 [some (.ref 132), none, none, none, some (.int (zI p)), some (.int (zI a)), some (.int (zI k))] (0, 0) (mkS w (hI S1) J)) (fun k a => a + (yrF cd rd nR nC q m.toNat (s, sd)).1 (12 + k)) (fun _ _ => True) nR 1 (fun n k a q1 q2 _ h9 => by
      obtain ⟨n, rfl⟩ : ∃ n', n = n' + 1 := ⟨n - 1, by omega⟩
      refine ⟨n, by omega, ?_⟩
      show aR X (d + 8) m_X10_year (n + 1) 49 [some (.ref 132), none, none, none, some (.int (zI p)), some (.int (zI a)), some (.int (zI k))] (0, 0) (mkS w (hI S1) J) = _
      have e := h2 (12 + k) (by unfold Vd; omega)
      rw [e_X10_year_49]
      simp (disch := omega) only [hk, hu, hI_n, hI_un, z_nat, em_d, zl, z_add, z_sub, z_mul, z_lt, z_eq, gI_mk, gJ_mk, cI_some, cV_some, cJ_some, cI_x, cV_x, cJ_x, uS_self, uS_ne, if_pos, if_neg, b01, b01n, ite_not, if_true, if_false, t7, e]) (fun _ _ _ _ _ => trivial) nR.toNat 0 0 (by omega) (by omega) trivial
    obtain ⟨n', y1, y2⟩ := g n (by omega)
    rw [fold_sum] at y2
    obtain ⟨n', rfl⟩ : ∃ m, n' = m + 1 := ⟨n' - 1, by omega⟩
    exact ⟨n', y2⟩
  refine ⟨S1, ?_, hq1⟩
  rw [go_X10_year, e_X10_year_0]
  simp (disch := omega) only [hk, hu, hI_n, hI_un, z_nat, em_d, zl, z_add, z_sub, z_mul, z_lt, z_eq, gI_mk, gJ_mk, cI_some, cV_some, cJ_some, cI_x, cV_x, cJ_x, uS_self, uS_ne, if_pos, if_neg, b01, b01n, ite_not, if_true, if_false, m_isYear, m_within]
  rw [m_may1 (uS_self _ _ _ _)]
  simp (disch := omega) only [hk, hu, hI_n, hI_un, z_nat, em_d, zl, z_add, z_sub, z_mul, z_lt, z_eq, gI_mk, gJ_mk, cI_some, cV_some, cJ_some, cI_x, cV_x, cJ_x, uS_self, uS_ne, if_pos, if_neg, b01, b01n, ite_not, if_true, if_false]
  rw [h1]
  unfold yearV
  have : p = 0 ∨ p = 1 ∨ p = 2 ∨ p = 3 := by omega
  rcases this with rfl | rfl | rfl | rfl
  · simp (disch := omega) only [hk, hu, hI_n, hI_un, z_nat, em_d, zl, z_add, z_sub, z_mul, z_lt, z_eq, gI_mk, gJ_mk, cI_some, cV_some, cJ_some, cI_x, cV_x, cJ_x, uS_self, uS_ne, if_pos, if_neg, b01, b01n, ite_not, if_true, if_false, e49, n49, rI_d]
  · simp (disch := omega) only [hk, hu, hI_n, hI_un, z_nat, em_d, zl, z_add, z_sub, z_mul, z_lt, z_eq, gI_mk, gJ_mk, cI_some, cV_some, cJ_some, cI_x, cV_x, cJ_x, uS_self, uS_ne, if_pos, if_neg, b01, b01n, ite_not, if_true, if_false, g1, rI_d]
  · simp (disch := omega) only [hk, hu, hI_n, hI_un, z_nat, em_d, zl, z_add, z_sub, z_mul, z_lt, z_eq, gI_mk, gJ_mk, cI_some, cV_some, cJ_some, cI_x, cV_x, cJ_x, uS_self, uS_ne, if_pos, if_neg, b01, b01n, ite_not, if_true, if_false]
    obtain ⟨n', y⟩ := hsum 2 9999999 (by omega)
    rw [y, e_X10_year_49]
    simp (disch := omega) only [hk, hu, hI_n, hI_un, z_nat, em_d, zl, z_add, z_sub, z_mul, z_lt, z_eq, gI_mk, gJ_mk, cI_some, cV_some, cJ_some, cI_x, cV_x, cJ_x, uS_self, uS_ne, if_pos, if_neg, b01, b01n, ite_not, if_true, if_false, t7, rI_d]
  · simp (disch := omega) only [hk, hu, hI_n, hI_un, z_nat, em_d, zl, z_add, z_sub, z_mul, z_lt, z_eq, gI_mk, gJ_mk, cI_some, cV_some, cJ_some, cI_x, cV_x, cJ_x, uS_self, uS_ne, if_pos, if_neg, b01, b01n, ite_not, if_true, if_false]
    obtain ⟨n', y⟩ := hsum 3 9999999 (by omega)
    rw [y, e_X10_year_49]
    simp (disch := omega) only [hk, hu, hI_n, hI_un, z_nat, em_d, zl, z_add, z_sub, z_mul, z_lt, z_eq, gI_mk, gJ_mk, cI_some, cV_some, cJ_some, cI_x, cV_x, cJ_x, uS_self, uS_ne, if_pos, if_neg, b01, b01n, ite_not, if_true, if_false, t7]
    rw [g3]
    simp (disch := omega) only [hk, hu, hI_n, hI_un, z_nat, em_d, zl, z_add, z_sub, z_mul, z_lt, z_eq, gI_mk, gJ_mk, cI_some, cV_some, cJ_some, cI_x, cV_x, cJ_x, uS_self, uS_ne, if_pos, if_neg, b01, b01n, ite_not, if_true, if_false, rI_d]
theorem m_year0 {sd q m p : Int} (hq : -2147483648 ≤ q ∧ q < 2147483648) (hm : -2147483648 ≤ m ∧ m < 2147483648) (hp : -2147483648 ≤ p ∧ p < 2147483648) (hok : ¬ (okYear q m ∧ 0 ≤ p ∧ p ≤ 3)) : am_call X aP (d + 9) 261 [.ref 132, .int (zI sd), .int (zI q), .int (zI m), .int (zI p)] (mkS w (hI S) J) = some (.inl (some (.int (zI 0))), (mkS w (hI (mxB S 1)) J)) := by
  have hmm := fun d => m_may0 (X := X) (d := d) (w := w) (J := J) (S := uS S 132 0 0) (uS_self _ _ _ _) (cd := 1) (k := 1) (by decide) (by decide)
  rw [go_X10_year, e_X10_year_0]
  by_cases o1 : (0 ≤ q ∧ q ≤ 16) ∧ 1 ≤ m ∧ m ≤ 96
  · by_cases o3 : 0 ≤ p ∧ p ≤ 3
    · exact absurd ⟨⟨o1.1.1, o1.1.2, o1.2.1, o1.2.2⟩, o3.1, o3.2⟩ hok
    · simp (disch := omega) only [hk, hu, hI_n, hI_un, z_nat, em_d, zl, z_add, z_sub, z_mul, z_lt, z_eq, gI_mk, gJ_mk, cI_some, cV_some, cJ_some, cI_x, cV_x, cJ_x, uS_self, uS_ne, if_pos, if_neg, b01, b01n, ite_not, if_true, if_false, m_isYear, m_within]
      rw [hmm]
      simp (disch := omega) only [hk, hu, hI_n, hI_un, z_nat, em_d, zl, z_add, z_sub, z_mul, z_lt, z_eq, gI_mk, gJ_mk, cI_some, cV_some, cJ_some, cI_x, cV_x, cJ_x, uS_self, uS_ne, if_pos, if_neg, b01, b01n, ite_not, if_true, if_false, rI_d]
      rfl
  · simp (disch := omega) only [hk, hu, hI_n, hI_un, z_nat, em_d, zl, z_add, z_sub, z_mul, z_lt, z_eq, gI_mk, gJ_mk, cI_some, cV_some, cJ_some, cI_x, cV_x, cJ_x, uS_self, uS_ne, if_pos, if_neg, b01, b01n, ite_not, if_true, if_false, m_isYear]
    rw [hmm]
    simp (disch := omega) only [hk, hu, hI_n, hI_un, z_nat, em_d, zl, z_add, z_sub, z_mul, z_lt, z_eq, gI_mk, gJ_mk, cI_some, cV_some, cJ_some, cI_x, cV_x, cJ_x, uS_self, uS_ne, if_pos, if_neg, b01, b01n, ite_not, if_true, if_false, rI_d]
    rfl
theorem m_span (hL : LdP S nT nR nC rd) (hn : NwP nR nC S s) (hv : InvS rd nR nC s) (h50 : s 50 ≤ 5600) (hc : CdP S cd) {sd n q m p c : Int} (hnn : 1 ≤ n ∧ n ≤ 10) (hok : okYear q m) (hp : 0 ≤ p ∧ p ≤ 2) (hcc : 0 ≤ c ∧ c < nC) : ∃ S', am_call X aP (d + 9) 262 [.ref 132, .int (zI sd), .int (zI n), .int (zI q), .int (zI m), .int (zI p), .int (zI c)] (mkS w (hI S) J) = some (.inl (some (.int (zI (spanV cd nR nC rd s sd n q m p c)))), (mkS w (hI S') J)) ∧ QuM S S' := by
  have hq0 := QuM_0 S
  obtain ⟨o1, o2, o3, o4⟩ := id hok
  obtain ⟨-, -, -, -, -, -, a7, a8, a9, a10, a11⟩ := id hL
  have hy : ∀ k, s 49 ≤ (yrF cd rd nR nC q m.toNat (s, sd + k)).1 49 ∧ (yrF cd rd nR nC q m.toNat (s, sd + k)).1 49 ≤ s 49 + 5 * m.toNat := fun k => yr49 cd (rd := rd) (q := q) (x := (s, sd + k)) ⟨a7, a8⟩ ⟨a9, a10⟩ m.toNat
  obtain ⟨⟨T, a⟩, ⟨v1, v2, v3⟩, k1⟩ := loopE (fun x k (b : Hp × (Int × Int × Int)) => aR X (d + 8) m_X10_span x 43 [some (.ref 132), some (.int (zI sd)), some (.int (zI n)), some (.int (zI q)), some (.int (zI m)), some (.int (zI p)), some (.int (zI c)), some (.int (zI ((if k = 0 then -1 else b.2.1)))), some (.int (zI b.2.2.1)), some (.int (zI b.2.2.2)), some (.int (zI k)), none] (0, 0) (mkS w (hI b.1) J)) (fun k b => QuM S b.1 ∧ b.2 = fold (spanG cd nR nC rd s sd q m c) k.toNat 0 (2147483647, 0, 0) ∧ (0 ≤ b.2.1 ∧ b.2.1 ≤ 2147483647 ∧ 0 ≤ b.2.2.1 ∧ b.2.2.1 ≤ 100000)) n 2 (fun k b q1 q2 q3 => by
    obtain ⟨q3, q4, q5⟩ := q3
    have hL1 := LdP_q hL q3
    obtain ⟨S1, h1, h2, h3, h4⟩ := m_yearGoes (X := X) (d := d) (w := w) (J := J) hL1 (NwP_q hn q3) hv h50 (CdP_q hc q3) (sd := sd + k) (q := q) (m := m) ⟨o1, o2⟩ ⟨o3, o4⟩
    have hq1 := QuM_yr q3 h3 (by decide) h4
    have e49 := h2 49 (by unfold Vd; omega)
    have n49 := (NwP_q hn hq1) 49 (by unfold Vd; omega)
    have e34 := h2 (34 + c) (by unfold Vd; omega)
    obtain ⟨i1, i2⟩ := inv_yr cd (q := q) (x := (s, sd + k)) hv a11 ⟨a7, a8⟩ ⟨a9, a10⟩ m.toNat (by show s 50 + (m.toNat : Int) ≤ 8000; omega)
    obtain ⟨-, -, -, -, i3, i4, -⟩ := i1.1.2.1 c hcc.1 hcc.2
    have hyk := hy k
    have hm9 : m.toNat ≤ 96 := by omega
    have ek : (k + 1).toNat = k.toNat + 1 := by omega
    refine ⟨(S1, spanG cd nR nC rd s sd q m c k b.2), ⟨hq1, ?_, ?_⟩, fun x hx => ?_⟩
    · rw [ek, fold_succ, ← q4, show (0 : Int) + (k.toNat : Int) = k by omega]
    · show 0 ≤ min b.2.1 ((yrF cd rd nR nC q m.toNat (s, sd + k)).1 49 - s 49) ∧ min b.2.1 ((yrF cd rd nR nC q m.toNat (s, sd + k)).1 49 - s 49) ≤ 2147483647 ∧ 0 ≤ max b.2.2.1 ((yrF cd rd nR nC q m.toNat (s, sd + k)).1 49 - s 49) ∧ max b.2.2.1 ((yrF cd rd nR nC q m.toNat (s, sd + k)).1 49 - s 49) ≤ 100000
      omega
    · obtain ⟨x, rfl⟩ : ∃ n', x = n' + 2 := ⟨x - 2, by omega⟩
      have e0 : (if k + 1 = 0 then -1 else (spanG cd nR nC rd s sd q m c k b.2).1) = min b.2.1 ((yrF cd rd nR nC q m.toNat (s, sd + k)).1 49 - s 49) := by rw [if_neg (by omega)]; rfl
      have key : ∀ f g : Int, f = min b.2.1 ((yrF cd rd nR nC q m.toNat (s, sd + k)).1 49 - s 49) → g = max b.2.2.1 ((yrF cd rd nR nC q m.toNat (s, sd + k)).1 49 - s 49) → ∀ y, aR X (d + 8) m_X10_span y 43 [some (.ref 132), some (.int (zI sd)), some (.int (zI n)), some (.int (zI q)), some (.int (zI m)), some (.int (zI p)), some (.int (zI c)), some (.int (zI f)), some (.int (zI g)), some (.int (zI ((b.2.2.2 + (if (yrF cd rd nR nC q m.toNat (s, sd + k)).1 (34 + c) = -1 then 1 else 0))))), some (.int (zI ((k + 1)))), none] (0, 0) (mkS w (hI S1) J) = aR X (d + 8) m_X10_span y 43 [some (.ref 132), some (.int (zI sd)), some (.int (zI n)), some (.int (zI q)), some (.int (zI m)), some (.int (zI p)), some (.int (zI c)), some (.int (zI ((if k + 1 = 0 then -1 else (spanG cd nR nC rd s sd q m c k b.2).1)))), some (.int (zI ((spanG cd nR nC rd s sd q m c k b.2).2.1))), some (.int (zI ((spanG cd nR nC rd s sd q m c k b.2).2.2))), some (.int (zI ((k + 1)))), none] (0, 0) (mkS w (hI S1) J) := fun f g hf hg y => by
        rw [e0, hf, hg]
        rfl
      by_cases p1 : k = 0 ∨ (yrF cd rd nR nC q m.toNat (s, sd + k)).1 49 - s 49 < b.2.1
      · have hf : (yrF cd rd nR nC q m.toNat (s, sd + k)).1 49 - s 49 = min b.2.1 ((yrF cd rd nR nC q m.toNat (s, sd + k)).1 49 - s 49) := by
          rcases p1 with p1 | p1
          · have : b.2.1 = 2147483647 := by rw [q4, p1]; rfl
            omega
          · omega
        refine ⟨x, by omega, ?_⟩
        show aR X (d + 8) m_X10_span (x + 2) 43 [some (.ref 132), some (.int (zI sd)), some (.int (zI n)), some (.int (zI q)), some (.int (zI m)), some (.int (zI p)), some (.int (zI c)), some (.int (zI ((if k = 0 then -1 else b.2.1)))), some (.int (zI b.2.2.1)), some (.int (zI b.2.2.2)), some (.int (zI k)), none] (0, 0) (mkS w (hI b.1) J) = _
        have step : aR X (d + 8) m_X10_span (x + 2) 43 [some (.ref 132), some (.int (zI sd)), some (.int (zI n)), some (.int (zI q)), some (.int (zI m)), some (.int (zI p)), some (.int (zI c)), some (.int (zI ((if k = 0 then -1 else b.2.1)))), some (.int (zI b.2.2.1)), some (.int (zI b.2.2.2)), some (.int (zI k)), none] (0, 0) (mkS w (hI b.1) J) = aR X (d + 8) m_X10_span (x + 1) 69 [some (.ref 132), some (.int (zI sd)), some (.int (zI n)), some (.int (zI q)), some (.int (zI m)), some (.int (zI p)), some (.int (zI c)), none, some (.int (zI b.2.2.1)), some (.int (zI b.2.2.2)), some (.int (zI k)), some (.int (zI (((yrF cd rd nR nC q m.toNat (s, sd + k)).1 49 - s 49))))] (0, 0) (mkS w (hI S1) J) := by
          rw [show x + 2 = (x + 1) + 1 from rfl, e_X10_span_43]
          by_cases p0 : k = 0
          · subst p0
            rw [if_pos rfl]
            simp (disch := omega) only [hk, hu, hI_n, hI_un, z_nat, em_d, zl, z_add, z_sub, z_mul, z_lt, z_eq, gI_mk, gJ_mk, cI_some, cV_some, cJ_some, cI_x, cV_x, cJ_x, uS_self, uS_ne, if_pos, if_neg, b01, b01n, ite_not, if_true, if_false]
            rw [show sd + 0 = sd by omega] at h1 e49
            simp only [show sd + 0 = sd by omega]
            rw [h1]
            simp (disch := omega) only [hk, hu, hI_n, hI_un, z_nat, em_d, zl, z_add, z_sub, z_mul, z_lt, z_eq, gI_mk, gJ_mk, cI_some, cV_some, cJ_some, cI_x, cV_x, cJ_x, uS_self, uS_ne, if_pos, if_neg, b01, b01n, ite_not, if_true, if_false, e49, n49]
          · rw [if_neg p0]
            simp (disch := omega) only [hk, hu, hI_n, hI_un, z_nat, em_d, zl, z_add, z_sub, z_mul, z_lt, z_eq, gI_mk, gJ_mk, cI_some, cV_some, cJ_some, cI_x, cV_x, cJ_x, uS_self, uS_ne, if_pos, if_neg, b01, b01n, ite_not, if_true, if_false]
            rw [h1]
            simp (disch := omega) only [hk, hu, hI_n, hI_un, z_nat, em_d, zl, z_add, z_sub, z_mul, z_lt, z_eq, gI_mk, gJ_mk, cI_some, cV_some, cJ_some, cI_x, cV_x, cJ_x, uS_self, uS_ne, if_pos, if_neg, b01, b01n, ite_not, if_true, if_false, e49, n49]
        rw [step, e_X10_span_69]
        by_cases p2 : b.2.2.1 < (yrF cd rd nR nC q m.toNat (s, sd + k)).1 49 - s 49
        · rw [← key _ _ hf (by omega : (yrF cd rd nR nC q m.toNat (s, sd + k)).1 49 - s 49 = _) x]
          by_cases z : (yrF cd rd nR nC q m.toNat (s, sd + k)).1 (34 + c) = -1
          · simp (disch := omega) only [hk, hu, hI_n, hI_un, z_nat, em_d, zl, z_add, z_sub, z_mul, z_lt, z_eq, gI_mk, gJ_mk, cI_some, cV_some, cJ_some, cI_x, cV_x, cJ_x, uS_self, uS_ne, if_pos, if_neg, b01, b01n, ite_not, if_true, if_false, e34, z]
          · simp (disch := omega) only [hk, hu, hI_n, hI_un, z_nat, em_d, zl, z_add, z_sub, z_mul, z_lt, z_eq, gI_mk, gJ_mk, cI_some, cV_some, cJ_some, cI_x, cV_x, cJ_x, uS_self, uS_ne, if_pos, if_neg, b01, b01n, ite_not, if_true, if_false, e34, if_neg z]
        · rw [← key _ _ hf (by omega : b.2.2.1 = _) x]
          by_cases z : (yrF cd rd nR nC q m.toNat (s, sd + k)).1 (34 + c) = -1
          · simp (disch := omega) only [hk, hu, hI_n, hI_un, z_nat, em_d, zl, z_add, z_sub, z_mul, z_lt, z_eq, gI_mk, gJ_mk, cI_some, cV_some, cJ_some, cI_x, cV_x, cJ_x, uS_self, uS_ne, if_pos, if_neg, b01, b01n, ite_not, if_true, if_false, e34, z]
          · simp (disch := omega) only [hk, hu, hI_n, hI_un, z_nat, em_d, zl, z_add, z_sub, z_mul, z_lt, z_eq, gI_mk, gJ_mk, cI_some, cV_some, cJ_some, cI_x, cV_x, cJ_x, uS_self, uS_ne, if_pos, if_neg, b01, b01n, ite_not, if_true, if_false, e34, if_neg z]
      · have p0 : ¬ k = 0 := fun z => p1 (Or.inl z)
        have p3 : ¬ (yrF cd rd nR nC q m.toNat (s, sd + k)).1 49 - s 49 < b.2.1 := fun z => p1 (Or.inr z)
        have hf : b.2.1 = min b.2.1 ((yrF cd rd nR nC q m.toNat (s, sd + k)).1 49 - s 49) := by omega
        refine ⟨x + 1, by omega, ?_⟩
        by_cases p2 : b.2.2.1 < (yrF cd rd nR nC q m.toNat (s, sd + k)).1 49 - s 49
        · refine Eq.trans ?_ (key _ _ hf (by omega : (yrF cd rd nR nC q m.toNat (s, sd + k)).1 49 - s 49 = _) (x + 1))
          show aR X (d + 8) m_X10_span (x + 1 + 1) 43 [some (.ref 132), some (.int (zI sd)), some (.int (zI n)), some (.int (zI q)), some (.int (zI m)), some (.int (zI p)), some (.int (zI c)), some (.int (zI ((if k = 0 then -1 else b.2.1)))), some (.int (zI b.2.2.1)), some (.int (zI b.2.2.2)), some (.int (zI k)), none] (0, 0) (mkS w (hI b.1) J) = _
          rw [if_neg p0, e_X10_span_43]
          simp (disch := omega) only [hk, hu, hI_n, hI_un, z_nat, em_d, zl, z_add, z_sub, z_mul, z_lt, z_eq, gI_mk, gJ_mk, cI_some, cV_some, cJ_some, cI_x, cV_x, cJ_x, uS_self, uS_ne, if_pos, if_neg, b01, b01n, ite_not, if_true, if_false]
          rw [h1]
          by_cases z : (yrF cd rd nR nC q m.toNat (s, sd + k)).1 (34 + c) = -1
          · simp (disch := omega) only [hk, hu, hI_n, hI_un, z_nat, em_d, zl, z_add, z_sub, z_mul, z_lt, z_eq, gI_mk, gJ_mk, cI_some, cV_some, cJ_some, cI_x, cV_x, cJ_x, uS_self, uS_ne, if_pos, if_neg, b01, b01n, ite_not, if_true, if_false, e34, e49, n49, z]
          · simp (disch := omega) only [hk, hu, hI_n, hI_un, z_nat, em_d, zl, z_add, z_sub, z_mul, z_lt, z_eq, gI_mk, gJ_mk, cI_some, cV_some, cJ_some, cI_x, cV_x, cJ_x, uS_self, uS_ne, if_pos, if_neg, b01, b01n, ite_not, if_true, if_false, e34, e49, n49, if_neg z]
        · refine Eq.trans ?_ (key _ _ hf (by omega : b.2.2.1 = _) (x + 1))
          show aR X (d + 8) m_X10_span (x + 1 + 1) 43 [some (.ref 132), some (.int (zI sd)), some (.int (zI n)), some (.int (zI q)), some (.int (zI m)), some (.int (zI p)), some (.int (zI c)), some (.int (zI ((if k = 0 then -1 else b.2.1)))), some (.int (zI b.2.2.1)), some (.int (zI b.2.2.2)), some (.int (zI k)), none] (0, 0) (mkS w (hI b.1) J) = _
          rw [if_neg p0, e_X10_span_43]
          simp (disch := omega) only [hk, hu, hI_n, hI_un, z_nat, em_d, zl, z_add, z_sub, z_mul, z_lt, z_eq, gI_mk, gJ_mk, cI_some, cV_some, cJ_some, cI_x, cV_x, cJ_x, uS_self, uS_ne, if_pos, if_neg, b01, b01n, ite_not, if_true, if_false]
          rw [h1]
          by_cases z : (yrF cd rd nR nC q m.toNat (s, sd + k)).1 (34 + c) = -1
          · simp (disch := omega) only [hk, hu, hI_n, hI_un, z_nat, em_d, zl, z_add, z_sub, z_mul, z_lt, z_eq, gI_mk, gJ_mk, cI_some, cV_some, cJ_some, cI_x, cV_x, cJ_x, uS_self, uS_ne, if_pos, if_neg, b01, b01n, ite_not, if_true, if_false, e34, e49, n49, z]
          · simp (disch := omega) only [hk, hu, hI_n, hI_un, z_nat, em_d, zl, z_add, z_sub, z_mul, z_lt, z_eq, gI_mk, gJ_mk, cI_some, cV_some, cJ_some, cI_x, cV_x, cJ_x, uS_self, uS_ne, if_pos, if_neg, b01, b01n, ite_not, if_true, if_false, e34, e49, n49, if_neg z]) n.toNat 0 (uS S 132 0 0, (2147483647, 0, 0)) (by omega) (by omega) ⟨hq0, rfl, by show (0 : Int) ≤ 2147483647 ∧ (2147483647 : Int) ≤ 2147483647 ∧ (0 : Int) ≤ 0 ∧ (0 : Int) ≤ 100000; decide⟩
  obtain ⟨n1, k2, k3⟩ := k1 9999999 (by omega)
  obtain ⟨n1, rfl⟩ : ∃ n', n1 = n' + 1 := ⟨n1 - 1, by omega⟩
  have v2 : a = spanF cd nR nC rd s sd n q m c := v2
  refine ⟨T, ?_, v1⟩
  have t8 := hL.2.2.1
  have t8' : uS S 132 0 0 132 19 = nC := (uS_ne _ _ (Or.inr (by decide))).trans t8
  rw [go_X10_span, e_X10_span_0]
  simp (disch := omega) only [hk, hu, hI_n, hI_un, z_nat, em_d, zl, z_add, z_sub, z_mul, z_lt, z_eq, gI_mk, gJ_mk, cI_some, cV_some, cJ_some, cI_x, cV_x, cJ_x, uS_self, uS_ne, if_pos, if_neg, b01, b01n, ite_not, if_true, if_false, m_isYear, m_within, t8, t8']
  rw [m_may1 (uS_self _ _ _ _)]
  simp (disch := omega) only [hk, hu, hI_n, hI_un, z_nat, em_d, zl, z_add, z_sub, z_mul, z_lt, z_eq, gI_mk, gJ_mk, cI_some, cV_some, cJ_some, cI_x, cV_x, cJ_x, uS_self, uS_ne, if_pos, if_neg, b01, b01n, ite_not, if_true, if_false]
  have k3 : aR X (d + 8) m_X10_span 9999999 43 [some (.ref 132), some (.int (zI sd)), some (.int (zI n)), some (.int (zI q)), some (.int (zI m)), some (.int (zI p)), some (.int (zI c)), some (.int (zI ((-1)))), some (.int (zI 0)), some (.int (zI 0)), some (.int (zI 0)), none] (0, 0) (mkS w (hI (uS S 132 0 0)) J) = aR X (d + 8) m_X10_span (n1 + 1) 43 [some (.ref 132), some (.int (zI sd)), some (.int (zI n)), some (.int (zI q)), some (.int (zI m)), some (.int (zI p)), some (.int (zI c)), some (.int (zI ((if n = 0 then -1 else a.1)))), some (.int (zI a.2.1)), some (.int (zI a.2.2)), some (.int (zI n)), none] (0, 0) (mkS w (hI T) J) := k3
  rw [k3, if_neg (by omega), e_X10_span_43, v2]
  unfold spanV
  have : p = 0 ∨ p = 1 ∨ p = 2 := by omega
  rcases this with rfl | rfl | rfl <;> simp (disch := omega) only [hk, hu, hI_n, hI_un, z_nat, em_d, zl, z_add, z_sub, z_mul, z_lt, z_eq, gI_mk, gJ_mk, cI_some, cV_some, cJ_some, cI_x, cV_x, cJ_x, uS_self, uS_ne, if_pos, if_neg, b01, b01n, ite_not, if_true, if_false, rI_d]
theorem m_span0 (hL : LdP S nT nR nC rd) {sd n q m p c : Int} (hn : -2147483648 ≤ n ∧ n < 2147483648) (hq : -2147483648 ≤ q ∧ q < 2147483648) (hm : -2147483648 ≤ m ∧ m < 2147483648) (hp : -2147483648 ≤ p ∧ p < 2147483648) (hc : -2147483648 ≤ c ∧ c < 2147483648) (hok : ¬ ((1 ≤ n ∧ n ≤ 10) ∧ okYear q m ∧ (0 ≤ p ∧ p ≤ 2) ∧ 0 ≤ c ∧ c < nC)) : am_call X aP (d + 9) 262 [.ref 132, .int (zI sd), .int (zI n), .int (zI q), .int (zI m), .int (zI p), .int (zI c)] (mkS w (hI S) J) = some (.inl (some (.int (zI 0))), (mkS w (hI (mxB S 1)) J)) := by
  have hmm := fun d => m_may0 (X := X) (d := d) (w := w) (J := J) (S := uS S 132 0 0) (uS_self _ _ _ _) (cd := 1) (k := 1) (by decide) (by decide)
  have t8 := hL.2.2.1
  have a9 := hL.2.2.2.2.2.2.2.2.1
  have a10 := hL.2.2.2.2.2.2.2.2.2.1
  have t8' : uS S 132 0 0 132 19 = nC := (uS_ne _ _ (Or.inr (by decide))).trans t8
  rw [go_X10_span, e_X10_span_0]
  by_cases o0 : 1 ≤ n ∧ n ≤ 10
  case neg =>
    simp (disch := omega) only [hk, hu, hI_n, hI_un, z_nat, em_d, zl, z_add, z_sub, z_mul, z_lt, z_eq, gI_mk, gJ_mk, cI_some, cV_some, cJ_some, cI_x, cV_x, cJ_x, uS_self, uS_ne, if_pos, if_neg, b01, b01n, ite_not, if_true, if_false, m_within]
    rw [hmm]
    simp (disch := omega) only [hk, hu, hI_n, hI_un, z_nat, em_d, zl, z_add, z_sub, z_mul, z_lt, z_eq, gI_mk, gJ_mk, cI_some, cV_some, cJ_some, cI_x, cV_x, cJ_x, uS_self, uS_ne, if_pos, if_neg, b01, b01n, ite_not, if_true, if_false, rI_d]
    rfl
  by_cases o1 : (0 ≤ q ∧ q ≤ 16) ∧ 1 ≤ m ∧ m ≤ 96
  case neg =>
    simp (disch := omega) only [hk, hu, hI_n, hI_un, z_nat, em_d, zl, z_add, z_sub, z_mul, z_lt, z_eq, gI_mk, gJ_mk, cI_some, cV_some, cJ_some, cI_x, cV_x, cJ_x, uS_self, uS_ne, if_pos, if_neg, b01, b01n, ite_not, if_true, if_false, m_isYear, m_within]
    rw [hmm]
    simp (disch := omega) only [hk, hu, hI_n, hI_un, z_nat, em_d, zl, z_add, z_sub, z_mul, z_lt, z_eq, gI_mk, gJ_mk, cI_some, cV_some, cJ_some, cI_x, cV_x, cJ_x, uS_self, uS_ne, if_pos, if_neg, b01, b01n, ite_not, if_true, if_false, rI_d]
    rfl
  by_cases o3 : 0 ≤ p ∧ p ≤ 2
  case neg =>
    simp (disch := omega) only [hk, hu, hI_n, hI_un, z_nat, em_d, zl, z_add, z_sub, z_mul, z_lt, z_eq, gI_mk, gJ_mk, cI_some, cV_some, cJ_some, cI_x, cV_x, cJ_x, uS_self, uS_ne, if_pos, if_neg, b01, b01n, ite_not, if_true, if_false, m_isYear, m_within]
    rw [hmm]
    simp (disch := omega) only [hk, hu, hI_n, hI_un, z_nat, em_d, zl, z_add, z_sub, z_mul, z_lt, z_eq, gI_mk, gJ_mk, cI_some, cV_some, cJ_some, cI_x, cV_x, cJ_x, uS_self, uS_ne, if_pos, if_neg, b01, b01n, ite_not, if_true, if_false, rI_d]
    rfl
  by_cases o4 : 0 ≤ c ∧ c < nC
  case neg =>
    simp (disch := omega) only [hk, hu, hI_n, hI_un, z_nat, em_d, zl, z_add, z_sub, z_mul, z_lt, z_eq, gI_mk, gJ_mk, cI_some, cV_some, cJ_some, cI_x, cV_x, cJ_x, uS_self, uS_ne, if_pos, if_neg, b01, b01n, ite_not, if_true, if_false, m_isYear, m_within, t8, t8']
    rw [hmm]
    simp (disch := omega) only [hk, hu, hI_n, hI_un, z_nat, em_d, zl, z_add, z_sub, z_mul, z_lt, z_eq, gI_mk, gJ_mk, cI_some, cV_some, cJ_some, cI_x, cV_x, cJ_x, uS_self, uS_ne, if_pos, if_neg, b01, b01n, ite_not, if_true, if_false, rI_d]
    rfl
  exact absurd ⟨o0, ⟨o1.1.1, o1.1.2, o1.2.1, o1.2.2⟩, o3, o4⟩ hok
end MYR
