/-! YEARS, SPANS, ARRIVALS on both sides -/
/-- what a year answers -/
def yearV (cd : List (Int × Int)) (nT nR nC : Int) (rd s : Int → Int) (sd q m p : Int) : Int := if p = 0 then (yrF cd rd nR nC q m.toNat (s, sd)).1 49 - s 49 else if p = 1 then (travB nC (yrF cd rd nR nC q m.toNat (s, sd)).1 : Int) else if p = 2 then tiredAll nR (yrF cd rd nR nC q m.toNat (s, sd)).1 else joinN rd nT nR (yrF cd rd nR nC q m.toNat (s, sd)).1
/-- a span: fewest, most, in a town; step by step -/
def spanG (cd : List (Int × Int)) (nR nC : Int) (rd s : Int → Int) (sd q m c : Int) (k : Int) (a : Int × Int × Int) : Int × Int × Int := (min a.1 ((yrF cd rd nR nC q m.toNat (s, sd + k)).1 49 - s 49), max a.2.1 ((yrF cd rd nR nC q m.toNat (s, sd + k)).1 49 - s 49), a.2.2 + (if (yrF cd rd nR nC q m.toNat (s, sd + k)).1 (34 + c) = -1 then 1 else 0))
def spanF (cd : List (Int × Int)) (nR nC : Int) (rd s : Int → Int) (sd n q m c : Int) : Int × Int × Int := fold (spanG cd nR nC rd s sd q m c) n.toNat 0 (2147483647, 0, 0)
def spanV (cd : List (Int × Int)) (nR nC : Int) (rd s : Int → Int) (sd n q m p c : Int) : Int := if p = 0 then (spanF cd nR nC rd s sd n q m c).1 else if p = 1 then (spanF cd nR nC rd s sd n q m c).2.1 else (spanF cd nR nC rd s sd n q m c).2.2
def okYear (q m : Int) : Prop := 0 ≤ q ∧ q ≤ 16 ∧ 1 ≤ m ∧ m ≤ 96
theorem draw49 {rd : Int → Int} {nR nC q : Int} {x : (Int → Int) × Int} (hR : 0 ≤ nR ∧ nR ≤ 12) (hC : nC ≤ 5) : (drawF rd nR nC q x).1 49 = x.1 49 := by
  unfold drawF
  by_cases p : nR = 0
  · rw [if_pos p]
  · rw [if_neg p]
    have hr : ∀ y : Int, 0 ≤ y % nR ∧ y % nR < nR := fun y => ⟨Int.emod_nonneg _ (by omega), Int.emod_lt_of_pos _ (by omega)⟩
    have e1 : (drawR nR q (drawC rd nR nC x)).1 49 = (drawC rd nR nC x).1 49 := by
      unfold drawR
      by_cases p2 : drw (nxS (drawC rd nR nC x).2) % 16 < q
      · rw [if_pos p2]
        show (if (drawC rd nR nC x).1 _ = _ then (drawC rd nR nC x).1 else pu _ _ _) 49 = _
        split
        · rfl
        · have := hr (drw (nxS (nxS (drawC rd nR nC x).2)))
          exact pu_o _ (by omega)
      · rw [if_neg p2]
    rw [e1]
    unfold drawC
    by_cases p1 : 0 < nC
    · rw [if_pos p1]
      show (if canSet rd x.1 (drw (nxS x.2) % nC) (drw (nxS (nxS x.2)) % nR) then setF rd x.1 (drw (nxS x.2) % nC) (drw (nxS (nxS x.2)) % nR) else x.1) 49 = _
      have hc : 0 ≤ drw (nxS x.2) % nC ∧ drw (nxS x.2) % nC < nC := ⟨Int.emod_nonneg _ (by omega), Int.emod_lt_of_pos _ (by omega)⟩
      split
      · exact setF_o _ _ (by omega)
      · rfl
    · rw [if_neg p1]
theorem yr49 (cd : List (Int × Int)) {rd : Int → Int} {nR nC q : Int} {x : (Int → Int) × Int} (hR : 0 ≤ nR ∧ nR ≤ 12) (hC : 0 ≤ nC ∧ nC ≤ 5) : ∀ n : Nat, x.1 49 ≤ (yrF cd rd nR nC q n x).1 49 ∧ (yrF cd rd nR nC q n x).1 49 ≤ x.1 49 + 5 * n
  | 0 => by
    show x.1 49 ≤ x.1 49 ∧ x.1 49 ≤ x.1 49 + 5 * ((0 : Nat) : Int)
    omega
  | n + 1 => by
    have ih := yr49 cd (rd := rd) (q := q) (x := x) hR hC n
    show x.1 49 ≤ hourF cd rd nR nC (drawF rd nR nC q (yrF cd rd nR nC q n x)).1 49 ∧ hourF cd rd nR nC (drawF rd nR nC q (yrF cd rd nR nC q n x)).1 49 ≤ x.1 49 + 5 * ((n + 1 : Nat) : Int)
    have := cameN_r cd rd nC (drawF rd nR nC q (yrF cd rd nR nC q n x)).1 nC.toNat
    rw [hourF_49, draw49 hR hC.2]
    omega
section CYR
variable {X : Nat × (Nat → Int32)} {d : Nat} {w : Bool × Bool × Bool} {S : Hp} {J : Nat → Nat → Int64} {nT nR nC : Int} {rd s : Int → Int} {cd : List (Int × Int)} {bl bs bw : Bool}
/-- rows of the class for its own use -/
def scC (v : Nat) : List Nat := [17, 18, 19, 20, 21, 22, 23, 24, 25, v + 3, v + 4]
theorem c_liveYear (hL : CL S (iL w.1) nT nR nC rd) (hs : CS nR nC S 8 s) (hv : InvS rd nR nC s) (h50 : s 50 ≤ 5600) (hc : CW S (iW w.2.1) cd) {sd q m : Int} (hok : okYear q m) : ∃ S', am_call X aP (d + 6) 138 [.ref 0, .int (zI sd), .int (zI q), .int (zI m)] (mkS w (hI S) J) = some (.inl none, (mkS w (hI S') J)) ∧ CS nR nC S' 17 (yrF cd rd nR nC q m.toNat (s, sd)).1 ∧ Fr (scC (iW w.2.1)) S S' := by
  obtain ⟨o1, o2, o3, o4⟩ := hok
  have hw := iW_c w.2.1
  have hl := iL_c w.1
  obtain ⟨-, -, -, -, -, -, a7, a8, a9, a10, a11⟩ := id hL
  obtain ⟨S1, h1, h2, h3, h3b⟩ := c_become (X := X) (d := d + 3) (w := w) (J := J) hs a8 a10
  have f1 : Fr (scC (iW w.2.1)) S (uS S1 17 10 sd) := Fr_tr (Fr_mono h3 (by intro o ho; simp only [scC, List.mem_cons, List.not_mem_nil, or_false] at ho ⊢; omega)) (Fr_u S1 (L := [17]) 10 sd (by decide)) (fun _ z => z) (by intro o ho; simp only [scC, List.mem_cons, List.not_mem_nil, or_false] at ho ⊢; omega)
  obtain ⟨S2, ⟨g1, g3, g4⟩, k1⟩ := loopE (fun n k T => aR X (d + 5) m_X9_liveYear n 11 [some (.ref 0), none, some (.int (zI q)), some (.int (zI m)), some (.int (zI k))] (0, 0) (mkS w (hI T) J)) (fun k T => Fr (scC (iW w.2.1)) S T ∧ CS nR nC T 17 (yrF cd rd nR nC q k.toNat (s, sd)).1 ∧ T 17 10 = (yrF cd rd nR nC q k.toNat (s, sd)).2) m 1 (fun k T q1 q2 q3 => by
    obtain ⟨q3, q5, q6⟩ := q3
    have hL1 : CL T (iL w.1) nT nR nC rd := CL_fr hL q3 (fun i hi => by simp only [scC, List.mem_cons, List.not_mem_nil, or_false]; omega)
    have hc1 : CW T (iW w.2.1) cd := CW_fr hc q3 (fun i hi => by simp only [scC, List.mem_cons, List.not_mem_nil, or_false]; omega)
    have q5 : CS nR nC T (iS true) (yrF cd rd nR nC q k.toNat (s, sd)).1 := q5
    obtain ⟨i1, i2⟩ := inv_yr cd (q := q) (x := (s, sd)) hv a11 ⟨a7, a8⟩ ⟨a9, a10⟩ k.toNat (by show s 50 + (k.toNat : Int) ≤ 8000; omega)
    have hk1 : (k + 1).toNat = k.toNat + 1 := by omega
    obtain ⟨T1, y1, y2, y3, y4⟩ := c_drawHour (X := X) (d := d + 2) (w := w) (J := J) (bs := true) hL1 q5 (Sc_on i1.1 a8) (fun r r1 r2 => (Sc_w i1.1).1 r r1 r2) (fun c c1 c2 => by have := i1.1.2.1 c c1 c2; exact ⟨this.1, this.2.1⟩) (q := q) ⟨o1, o2⟩
    have e10 : T (iS true) 10 = (yrF cd rd nR nC q k.toNat (s, sd)).2 := q6
    rw [e10] at y2 y3
    obtain ⟨j1, j2⟩ := inv_drawF (q := q) (x := yrF cd rd nR nC q k.toNat (s, sd)) i1 a11 ⟨a7, a8⟩ a10
    have hL2 : CL T1 (iL w.1) nT nR nC rd := CL_fr hL1 y4 (fun i hi => by simp only [CS17, List.mem_cons, List.not_mem_nil, or_false]; omega)
    have hc2 : CW T1 (iW w.2.1) cd := CW_fr hc1 y4 (fun i hi => by simp only [CS17, List.mem_cons, List.not_mem_nil, or_false]; omega)
    have t1 := j1.1.2.2.1
    have t2 := j1.1.2.2.2.1
    obtain ⟨T2, z1, z2, z3, z4⟩ := c_passHour (X := X) (d := d) (w := w) (J := J) (bs := true) hL2 y2 (Sc_w j1.1) ⟨t1, Int.lt_of_le_of_lt t2 (by decide)⟩ hc2
    refine ⟨T2, ⟨Fr_tr (Fr_tr q3 y4 (fun _ z => z) (by intro o ho; simp only [CS17, scC, List.mem_cons, List.not_mem_nil, or_false] at ho ⊢; omega)) z3 (fun _ z => z) (by intro o ho; simp only [CS17, scC, List.mem_cons, List.not_mem_nil, or_false] at ho ⊢; omega), ?_, ?_⟩, fun n hn => ?_⟩
    · rw [hk1]
      exact z2
    · rw [hk1]
      exact (z4 10 (by decide) (by decide)).trans y3
    · obtain ⟨n, rfl⟩ : ∃ n', n = n' + 1 := ⟨n - 1, by omega⟩
      refine ⟨n, by omega, ?_⟩
      show aR X (d + 5) m_X9_liveYear (n + 1) 11 [some (.ref 0), none, some (.int (zI q)), some (.int (zI m)), some (.int (zI k))] (0, 0) (mkS w (hI T) J) = aR X (d + 5) m_X9_liveYear n 11 [some (.ref 0), none, some (.int (zI q)), some (.int (zI m)), some (.int (zI ((k + 1))))] (0, 0) (mkS w (hI T2) J)
      rw [CS17] at y1 z1
      rw [e_X9_liveYear_11]
      simp (disch := omega) only [hk, hu, hI_n, hI_un, z_nat, em_d, zl, z_add, z_sub, z_mul, z_lt, z_eq, gI_mk, gJ_mk, cI_some, cV_some, cJ_some, cI_x, cV_x, cJ_x, uS_self, uS_ne, if_pos, if_neg, b01, b01n, ite_not, if_true, if_false]
      rw [y1]
      simp (disch := omega) only [hk, hu, hI_n, hI_un, z_nat, em_d, zl, z_add, z_sub, z_mul, z_lt, z_eq, gI_mk, gJ_mk, cI_some, cV_some, cJ_some, cI_x, cV_x, cJ_x, uS_self, uS_ne, if_pos, if_neg, b01, b01n, ite_not, if_true, if_false]
      rw [z1]
      simp (disch := omega) only [hk, hu, hI_n, hI_un, z_nat, em_d, zl, z_add, z_sub, z_mul, z_lt, z_eq, gI_mk, gJ_mk, cI_some, cV_some, cJ_some, cI_x, cV_x, cJ_x, uS_self, uS_ne, if_pos, if_neg, b01, b01n, ite_not, if_true, if_false]) m.toNat 0 (uS S1 17 10 sd) (by omega) (by omega) ⟨f1, CS_u h2 _ _ ⟨rfl, by decide, by decide⟩, uS_self _ _ _ _⟩
  obtain ⟨n1, k2, k3⟩ := k1 9999999 (by omega)
  obtain ⟨n1, rfl⟩ : ∃ n', n1 = n' + 1 := ⟨n1 - 1, by omega⟩
  refine ⟨S2, ?_, g3, g1⟩
  rw [go_X9_liveYear, e_X9_liveYear_0, h1]
  simp (disch := omega) only [hk, hu, hI_n, hI_un, z_nat, em_d, zl, z_add, z_sub, z_mul, z_lt, z_eq, gI_mk, gJ_mk, cI_some, cV_some, cJ_some, cI_x, cV_x, cJ_x, uS_self, uS_ne, if_pos, if_neg, b01, b01n, ite_not, if_true, if_false]
  rw [k3]
  show aR X (d + 5) m_X9_liveYear (n1 + 1) 11 [some (.ref 0), none, some (.int (zI q)), some (.int (zI m)), some (.int (zI m))] (0, 0) (mkS w (hI S2) J) = _
  rw [e_X9_liveYear_11]
  simp (disch := omega) only [hk, hu, hI_n, hI_un, z_nat, em_d, zl, z_add, z_sub, z_mul, z_lt, z_eq, gI_mk, gJ_mk, cI_some, cV_some, cJ_some, cI_x, cV_x, cJ_x, uS_self, uS_ne, if_pos, if_neg, b01, b01n, ite_not, if_true, if_false, rV_d]
theorem scC_n (v : Nat) (hv : v = 114 ∨ v = 119) : ¬ 8 ∈ scC v ∧ ¬ 9 ∈ scC v ∧ ¬ 0 ∈ scC v := by
  simp only [scC, List.mem_cons, List.not_mem_nil, or_false]
  omega
theorem c_year (hL : CL S (iL w.1) nT nR nC rd) (hE : Ends nT nR rd) (hs : CS nR nC S 8 s) (hv : InvS rd nR nC s) (h50 : s 50 ≤ 5600) (hc : CW S (iW w.2.1) cd) {sd q m p : Int} (hok : okYear q m) (hp : 0 ≤ p ∧ p ≤ 3) : ∃ S', am_call X aP (d + 7) 136 [.ref 0, .int (zI sd), .int (zI q), .int (zI m), .int (zI p)] (mkS w (hI S) J) = some (.inl (some (.int (zI (yearV cd nT nR nC rd s sd q m p)))), (mkS w (hI S') J)) ∧ Fr (scC (iW w.2.1)) S S' := by
  have hw := iW_c w.2.1
  have hl := iL_c w.1
  obtain ⟨-, -, -, -, -, -, a7, a8, a9, a10, a11⟩ := id hL
  obtain ⟨S1, h1, h2, h3⟩ := c_liveYear (X := X) (d := d) (w := w) (J := J) hL hs hv h50 hc (sd := sd) hok
  obtain ⟨o1, o2, o3, o4⟩ := hok
  have hL1 : CL S1 (iL w.1) nT nR nC rd := CL_fr hL h3 (fun i hi => by simp only [scC, List.mem_cons, List.not_mem_nil, or_false]; omega)
  obtain ⟨i1, i2⟩ := inv_yr cd (q := q) (x := (s, sd)) hv a11 ⟨a7, a8⟩ ⟨a9, a10⟩ m.toNat (by show s 50 + (m.toNat : Int) ≤ 8000; omega)
  have h2t : CS nR nC S1 (iS true) (yrF cd rd nR nC q m.toNat (s, sd)).1 := h2
  have g1 := fun d => c_travellers (X := X) (d := d) (w := w) (J := J) (bs := true) hL1 h2t (Sc_on i1.1 a8)
  have g2 := fun d => c_tiredTogether (X := X) (d := d) (w := w) (J := J) (bs := true) hL1 h2t
  have g3 := fun d => c_joinedDays (X := X) (d := d) (w := w) (J := J) (bs := true) hL1 hE h2t (fun r r1 r2 => (Sc_w i1.1).1 r r1 r2)
  rw [CS17] at g1 g2 g3
  have e49 : S1 17 9 = (yrF cd rd nR nC q m.toNat (s, sd)).1 49 := h2.2.2.2
  have e8 : S1 8 9 = s 49 := by rw [h3 8 (scC_n _ hw).1]; exact hs.2.2.2
  obtain ⟨j1, j2⟩ := joinDB_pop rd nT nR (yrF cd rd nR nC q m.toNat (s, sd)).1
  refine ⟨S1, ?_, h3⟩
  rw [go_X9_year, e_X9_year_0]
  simp (disch := omega) only [hk, hu, hI_n, hI_un, z_nat, em_d, zl, z_add, z_sub, z_mul, z_lt, z_eq, gI_mk, gJ_mk, cI_some, cV_some, cJ_some, cI_x, cV_x, cJ_x, uS_self, uS_ne, if_pos, if_neg, b01, b01n, ite_not, if_true, if_false, c_within, c_req1]
  rw [show 9999999 = 9999998 + 1 from rfl, e_X9_year_20, h1]
  unfold yearV
  have : p = 0 ∨ p = 1 ∨ p = 2 ∨ p = 3 := by omega
  rcases this with rfl | rfl | rfl | rfl
  · simp (disch := omega) only [hk, hu, hI_n, hI_un, z_nat, em_d, zl, z_add, z_sub, z_mul, z_lt, z_eq, gI_mk, gJ_mk, cI_some, cV_some, cJ_some, cI_x, cV_x, cJ_x, uS_self, uS_ne, if_pos, if_neg, b01, b01n, ite_not, if_true, if_false, e49, e8, rI_d]
  · simp (disch := omega) only [hk, hu, hI_n, hI_un, z_nat, em_d, zl, z_add, z_sub, z_mul, z_lt, z_eq, gI_mk, gJ_mk, cI_some, cV_some, cJ_some, cI_x, cV_x, cJ_x, uS_self, uS_ne, if_pos, if_neg, b01, b01n, ite_not, if_true, if_false, g1, rI_d]
  · simp (disch := omega) only [hk, hu, hI_n, hI_un, z_nat, em_d, zl, z_add, z_sub, z_mul, z_lt, z_eq, gI_mk, gJ_mk, cI_some, cV_some, cJ_some, cI_x, cV_x, cJ_x, uS_self, uS_ne, if_pos, if_neg, b01, b01n, ite_not, if_true, if_false, g2, rI_d]
  · simp (disch := omega) only [hk, hu, hI_n, hI_un, z_nat, em_d, zl, z_add, z_sub, z_mul, z_lt, z_eq, gI_mk, gJ_mk, cI_some, cV_some, cJ_some, cI_x, cV_x, cJ_x, uS_self, uS_ne, if_pos, if_neg, b01, b01n, ite_not, if_true, if_false, g3]
    rw [c_bitCount j1, j2]
    simp (disch := omega) only [hk, hu, hI_n, hI_un, z_nat, em_d, zl, z_add, z_sub, z_mul, z_lt, z_eq, gI_mk, gJ_mk, cI_some, cV_some, cJ_some, cI_x, cV_x, cJ_x, uS_self, uS_ne, if_pos, if_neg, b01, b01n, ite_not, if_true, if_false, rI_d]
theorem c_year0 {sd q m p : Int} (hq : -2147483648 ≤ q ∧ q < 2147483648) (hm : -2147483648 ≤ m ∧ m < 2147483648) (hp : -2147483648 ≤ p ∧ p < 2147483648) (hok : ¬ (okYear q m ∧ 0 ≤ p ∧ p ≤ 3)) : am_call X aP (d + 7) 136 [.ref 0, .int (zI sd), .int (zI q), .int (zI m), .int (zI p)] (mkS w (hI S) J) = some (.inr 2, (mkS w (hI (xbS S)) J)) := by
  rw [go_X9_year, e_X9_year_0]
  by_cases o1 : 0 ≤ q ∧ q ≤ 16
  case neg => simp (disch := omega) only [hk, hu, hI_n, hI_un, z_nat, em_d, zl, z_add, z_sub, z_mul, z_lt, z_eq, gI_mk, gJ_mk, cI_some, cV_some, cJ_some, cI_x, cV_x, cJ_x, uS_self, uS_ne, if_pos, if_neg, b01, b01n, ite_not, if_true, if_false, c_within, c_req0, rX_d]
  by_cases o2 : 1 ≤ m ∧ m ≤ 96
  case neg => simp (disch := omega) only [hk, hu, hI_n, hI_un, z_nat, em_d, zl, z_add, z_sub, z_mul, z_lt, z_eq, gI_mk, gJ_mk, cI_some, cV_some, cJ_some, cI_x, cV_x, cJ_x, uS_self, uS_ne, if_pos, if_neg, b01, b01n, ite_not, if_true, if_false, c_within, c_req0, rX_d]
  by_cases o3 : 0 ≤ p ∧ p ≤ 3
  case neg => simp (disch := omega) only [hk, hu, hI_n, hI_un, z_nat, em_d, zl, z_add, z_sub, z_mul, z_lt, z_eq, gI_mk, gJ_mk, cI_some, cV_some, cJ_some, cI_x, cV_x, cJ_x, uS_self, uS_ne, if_pos, if_neg, b01, b01n, ite_not, if_true, if_false, c_within, c_req0, rX_d]
  exact absurd ⟨⟨o1.1, o1.2, o2.1, o2.2⟩, o3.1, o3.2⟩ hok
theorem c_span (hL : CL S (iL w.1) nT nR nC rd) (hs : CS nR nC S 8 s) (hv : InvS rd nR nC s) (h50 : s 50 ≤ 5600) (hc : CW S (iW w.2.1) cd) {sd n q m p c : Int} (hn : 1 ≤ n ∧ n ≤ 10) (hok : okYear q m) (hp : 0 ≤ p ∧ p ≤ 2) (hcc : 0 ≤ c ∧ c < nC) : ∃ S', am_call X aP (d + 7) 137 [.ref 0, .int (zI sd), .int (zI n), .int (zI q), .int (zI m), .int (zI p), .int (zI c)] (mkS w (hI S) J) = some (.inl (some (.int (zI (spanV cd nR nC rd s sd n q m p c)))), (mkS w (hI S') J)) ∧ Fr (scC (iW w.2.1)) S S' := by
  have hw := iW_c w.2.1
  have hl := iL_c w.1
  obtain ⟨-, -, -, -, -, -, a7, a8, a9, a10, a11⟩ := id hL
  have hy : ∀ k, s 49 ≤ (yrF cd rd nR nC q m.toNat (s, sd + k)).1 49 ∧ (yrF cd rd nR nC q m.toNat (s, sd + k)).1 49 ≤ s 49 + 5 * m.toNat := fun k => yr49 cd (rd := rd) (q := q) (x := (s, sd + k)) ⟨a7, a8⟩ ⟨a9, a10⟩ m.toNat
  have hm96 : m ≤ 96 := hok.2.2.2
  obtain ⟨⟨T, a⟩, ⟨v1, v2, v3⟩, k1⟩ := loopE (fun x k (b : Hp × (Int × Int × Int)) => aR X (d + 6) m_X9_span x 47 [some (.ref 0), some (.int (zI sd)), some (.int (zI n)), some (.int (zI q)), some (.int (zI m)), some (.int (zI p)), some (.int (zI c)), some (.int (zI ((if k = 0 then 0 else b.2.1)))), some (.int (zI b.2.2.1)), some (.int (zI b.2.2.2)), some (.int (zI k)), none] (2, 12) (mkS w (hI b.1) J)) (fun k b => Fr (scC (iW w.2.1)) S b.1 ∧ b.2 = fold (spanG cd nR nC rd s sd q m c) k.toNat 0 (2147483647, 0, 0) ∧ (0 ≤ b.2.1 ∧ b.2.1 ≤ 2147483647 ∧ 0 ≤ b.2.2.1 ∧ b.2.2.1 ≤ 100000)) n 1 (fun k b q1 q2 q3 => by
    obtain ⟨q3, q4, q5⟩ := q3
    have hL1 : CL b.1 (iL w.1) nT nR nC rd := CL_fr hL q3 (fun i hi => by simp only [scC, List.mem_cons, List.not_mem_nil, or_false]; omega)
    have hc1 : CW b.1 (iW w.2.1) cd := CW_fr hc q3 (fun i hi => by simp only [scC, List.mem_cons, List.not_mem_nil, or_false]; omega)
    have hs1 : CS nR nC b.1 8 s := CS_fr hs q3 (fun i hi => by simp only [scC, List.mem_cons, List.not_mem_nil, or_false]; omega)
    obtain ⟨S1, h1, h2, h3⟩ := c_liveYear (X := X) (d := d) (w := w) (J := J) hL1 hs1 hv h50 hc1 (sd := sd + k) hok
    have e49 : S1 17 9 = (yrF cd rd nR nC q m.toNat (s, sd + k)).1 49 := h2.2.2.2
    have e8 : S1 8 9 = s 49 := by rw [h3 8 (scC_n _ hw).1]; exact hs1.2.2.2
    obtain ⟨-, -, e34, -⟩ := h2.2.1 c hcc.1 hcc.2
    have e34 : S1 22 c = (yrF cd rd nR nC q m.toNat (s, sd + k)).1 (34 + c) := e34
    obtain ⟨i1, i2⟩ := inv_yr cd (q := q) (x := (s, sd + k)) hv a11 ⟨a7, a8⟩ ⟨a9, a10⟩ m.toNat (by show s 50 + (m.toNat : Int) ≤ 8000; omega)
    obtain ⟨-, -, -, -, i3, i4, -⟩ := i1.1.2.1 c hcc.1 hcc.2
    have hyk := hy k
    have hm9 : m.toNat ≤ 96 := by omega
    refine ⟨(S1, spanG cd nR nC rd s sd q m c k b.2), ⟨Fr_tr q3 h3 (fun _ z => z) (fun _ z => z), ?_, ?_⟩, fun x hx => ?_⟩
    · rw [show (k + 1).toNat = k.toNat + 1 by omega, fold_succ, ← q4, show (0 : Int) + (k.toNat : Int) = k by omega]
    · show 0 ≤ min b.2.1 ((yrF cd rd nR nC q m.toNat (s, sd + k)).1 49 - s 49) ∧ min b.2.1 ((yrF cd rd nR nC q m.toNat (s, sd + k)).1 49 - s 49) ≤ 2147483647 ∧ 0 ≤ max b.2.2.1 ((yrF cd rd nR nC q m.toNat (s, sd + k)).1 49 - s 49) ∧ max b.2.2.1 ((yrF cd rd nR nC q m.toNat (s, sd + k)).1 49 - s 49) ≤ 100000
      omega
    · obtain ⟨x, rfl⟩ : ∃ n', x = n' + 1 := ⟨x - 1, by omega⟩
      refine ⟨x, by omega, ?_⟩
      show aR X (d + 6) m_X9_span (x + 1) 47 [some (.ref 0), some (.int (zI sd)), some (.int (zI n)), some (.int (zI q)), some (.int (zI m)), some (.int (zI p)), some (.int (zI c)), some (.int (zI ((if k = 0 then 0 else b.2.1)))), some (.int (zI b.2.2.1)), some (.int (zI b.2.2.2)), some (.int (zI k)), none] (2, 12) (mkS w (hI b.1) J) = aR X (d + 6) m_X9_span x 47 [some (.ref 0), some (.int (zI sd)), some (.int (zI n)), some (.int (zI q)), some (.int (zI m)), some (.int (zI p)), some (.int (zI c)), some (.int (zI ((if k + 1 = 0 then 0 else min b.2.1 ((yrF cd rd nR nC q m.toNat (s, sd + k)).1 49 - s 49))))), some (.int (zI ((max b.2.2.1 ((yrF cd rd nR nC q m.toNat (s, sd + k)).1 49 - s 49))))), some (.int (zI ((b.2.2.2 + (if (yrF cd rd nR nC q m.toNat (s, sd + k)).1 (34 + c) = -1 then 1 else 0))))), some (.int (zI ((k + 1)))), none] (2, 12) (mkS w (hI S1) J)
      rw [if_neg (show ¬ k + 1 = 0 by omega)]
      by_cases k0 : k = 0
      · have hb : b.2.1 = 2147483647 := by
          rw [q4, k0]
          rfl
        have hmn : min b.2.1 ((yrF cd rd nR nC q m.toNat (s, sd + k)).1 49 - s 49) = (yrF cd rd nR nC q m.toNat (s, sd + k)).1 49 - s 49 := by omega
        rw [if_pos k0, hmn, e_X9_span_47]
        simp (disch := omega) only [hk, hu, hI_n, hI_un, z_nat, em_d, zl, z_add, z_sub, z_mul, z_lt, z_eq, gI_mk, gJ_mk, cI_some, cV_some, cJ_some, cI_x, cV_x, cJ_x, uS_self, uS_ne, if_pos, if_neg, b01, b01n, ite_not, if_true, if_false]
        rw [h1]
        simp (disch := omega) only [hk, hu, hI_n, hI_un, z_nat, em_d, zl, z_add, z_sub, z_mul, z_lt, z_eq, gI_mk, gJ_mk, cI_some, cV_some, cJ_some, cI_x, cV_x, cJ_x, uS_self, uS_ne, if_pos, if_neg, b01, b01n, ite_not, if_true, if_false, e49, e8]
        rw [c_max (by omega) (by omega)]
        by_cases z : (yrF cd rd nR nC q m.toNat (s, sd + k)).1 (34 + c) = -1
        · simp (disch := omega) only [hk, hu, hI_n, hI_un, z_nat, em_d, zl, z_add, z_sub, z_mul, z_lt, z_eq, gI_mk, gJ_mk, cI_some, cV_some, cJ_some, cI_x, cV_x, cJ_x, uS_self, uS_ne, if_pos, if_neg, b01, b01n, ite_not, if_true, if_false, e34, z]
        · simp (disch := omega) only [hk, hu, hI_n, hI_un, z_nat, em_d, zl, z_add, z_sub, z_mul, z_lt, z_eq, gI_mk, gJ_mk, cI_some, cV_some, cJ_some, cI_x, cV_x, cJ_x, uS_self, uS_ne, if_pos, if_neg, b01, b01n, ite_not, if_true, if_false, e34, if_neg z]
      · rw [if_neg k0, e_X9_span_47]
        simp (disch := omega) only [hk, hu, hI_n, hI_un, z_nat, em_d, zl, z_add, z_sub, z_mul, z_lt, z_eq, gI_mk, gJ_mk, cI_some, cV_some, cJ_some, cI_x, cV_x, cJ_x, uS_self, uS_ne, if_pos, if_neg, b01, b01n, ite_not, if_true, if_false]
        rw [h1]
        simp (disch := omega) only [hk, hu, hI_n, hI_un, z_nat, em_d, zl, z_add, z_sub, z_mul, z_lt, z_eq, gI_mk, gJ_mk, cI_some, cV_some, cJ_some, cI_x, cV_x, cJ_x, uS_self, uS_ne, if_pos, if_neg, b01, b01n, ite_not, if_true, if_false, e49, e8]
        rw [c_min (by omega) (by omega)]
        simp (disch := omega) only [hk, hu, hI_n, hI_un, z_nat, em_d, zl, z_add, z_sub, z_mul, z_lt, z_eq, gI_mk, gJ_mk, cI_some, cV_some, cJ_some, cI_x, cV_x, cJ_x, uS_self, uS_ne, if_pos, if_neg, b01, b01n, ite_not, if_true, if_false]
        rw [c_max (by omega) (by omega)]
        by_cases z : (yrF cd rd nR nC q m.toNat (s, sd + k)).1 (34 + c) = -1
        · simp (disch := omega) only [hk, hu, hI_n, hI_un, z_nat, em_d, zl, z_add, z_sub, z_mul, z_lt, z_eq, gI_mk, gJ_mk, cI_some, cV_some, cJ_some, cI_x, cV_x, cJ_x, uS_self, uS_ne, if_pos, if_neg, b01, b01n, ite_not, if_true, if_false, e34, z]
        · simp (disch := omega) only [hk, hu, hI_n, hI_un, z_nat, em_d, zl, z_add, z_sub, z_mul, z_lt, z_eq, gI_mk, gJ_mk, cI_some, cV_some, cJ_some, cI_x, cV_x, cJ_x, uS_self, uS_ne, if_pos, if_neg, b01, b01n, ite_not, if_true, if_false, e34, if_neg z]) n.toNat 0 (S, (2147483647, 0, 0)) (by omega) (by omega) ⟨Fr_rf _ _, rfl, by show (0 : Int) ≤ 2147483647 ∧ (2147483647 : Int) ≤ 2147483647 ∧ (0 : Int) ≤ 0 ∧ (0 : Int) ≤ 100000; decide⟩
  obtain ⟨n1, k2, k3⟩ := k1 9999997 (by omega)
  obtain ⟨n1, rfl⟩ : ∃ n', n1 = n' + 1 := ⟨n1 - 1, by omega⟩
  have v2 : a = spanF cd nR nC rd s sd n q m c := v2
  refine ⟨T, ?_, v1⟩
  obtain ⟨o1, o2, o3, o4⟩ := hok
  have t8 := hL.2.2.1
  rw [go_X9_span, e_X9_span_0]
  simp (disch := omega) only [hk, hu, hI_n, hI_un, z_nat, em_d, zl, z_add, z_sub, z_mul, z_lt, z_eq, gI_mk, gJ_mk, cI_some, cV_some, cJ_some, cI_x, cV_x, cJ_x, uS_self, uS_ne, if_pos, if_neg, b01, b01n, ite_not, if_true, if_false, c_within, c_req1]
  rw [show 9999999 = 9999998 + 1 from rfl, e_X9_span_20]
  simp (disch := omega) only [hk, hu, hI_n, hI_un, z_nat, em_d, zl, z_add, z_sub, z_mul, z_lt, z_eq, gI_mk, gJ_mk, cI_some, cV_some, cJ_some, cI_x, cV_x, cJ_x, uS_self, uS_ne, if_pos, if_neg, b01, b01n, ite_not, if_true, if_false, c_within, c_req1, t8]
  rw [show 9999998 = 9999997 + 1 from rfl, e_X9_span_39]
  simp (disch := omega) only [hk, hu, hI_n, hI_un, z_nat, em_d, zl, z_add, z_sub, z_mul, z_lt, z_eq, gI_mk, gJ_mk, cI_some, cV_some, cJ_some, cI_x, cV_x, cJ_x, uS_self, uS_ne, if_pos, if_neg, b01, b01n, ite_not, if_true, if_false]
  have k3 : aR X (d + 6) m_X9_span 9999997 47 [some (.ref 0), some (.int (zI sd)), some (.int (zI n)), some (.int (zI q)), some (.int (zI m)), some (.int (zI p)), some (.int (zI c)), some (.int (zI ((if (0 : Int) = 0 then 0 else 2147483647)))), some (.int (zI 0)), some (.int (zI 0)), some (.int (zI 0)), none] (2, 12) (mkS w (hI S) J) = aR X (d + 6) m_X9_span (n1 + 1) 47 [some (.ref 0), some (.int (zI sd)), some (.int (zI n)), some (.int (zI q)), some (.int (zI m)), some (.int (zI p)), some (.int (zI c)), some (.int (zI ((if n = 0 then 0 else a.1)))), some (.int (zI a.2.1)), some (.int (zI a.2.2)), some (.int (zI n)), none] (2, 12) (mkS w (hI T) J) := k3
  rw [if_pos rfl, if_neg (show ¬ n = 0 by omega)] at k3
  rw [k3, e_X9_span_47, v2]
  unfold spanV
  have : p = 0 ∨ p = 1 ∨ p = 2 := by omega
  rcases this with rfl | rfl | rfl <;> simp (disch := omega) only [hk, hu, hI_n, hI_un, z_nat, em_d, zl, z_add, z_sub, z_mul, z_lt, z_eq, gI_mk, gJ_mk, cI_some, cV_some, cJ_some, cI_x, cV_x, cJ_x, uS_self, uS_ne, if_pos, if_neg, b01, b01n, ite_not, if_true, if_false, rI_d]
theorem c_span0 (hL : CL S (iL w.1) nT nR nC rd) {sd n q m p c : Int} (hn : -2147483648 ≤ n ∧ n < 2147483648) (hq : -2147483648 ≤ q ∧ q < 2147483648) (hm : -2147483648 ≤ m ∧ m < 2147483648) (hp : -2147483648 ≤ p ∧ p < 2147483648) (hc : -2147483648 ≤ c ∧ c < 2147483648) (hok : ¬ ((1 ≤ n ∧ n ≤ 10) ∧ okYear q m ∧ (0 ≤ p ∧ p ≤ 2) ∧ 0 ≤ c ∧ c < nC)) : am_call X aP (d + 7) 137 [.ref 0, .int (zI sd), .int (zI n), .int (zI q), .int (zI m), .int (zI p), .int (zI c)] (mkS w (hI S) J) = some (.inr 2, (mkS w (hI (xbS S)) J)) := by
  have t8 := hL.2.2.1
  have a9 := hL.2.2.2.2.2.2.2.2.1
  have a10 := hL.2.2.2.2.2.2.2.2.2.1
  rw [go_X9_span, e_X9_span_0]
  by_cases o0 : 1 ≤ n ∧ n ≤ 10
  case neg => simp (disch := omega) only [hk, hu, hI_n, hI_un, z_nat, em_d, zl, z_add, z_sub, z_mul, z_lt, z_eq, gI_mk, gJ_mk, cI_some, cV_some, cJ_some, cI_x, cV_x, cJ_x, uS_self, uS_ne, if_pos, if_neg, b01, b01n, ite_not, if_true, if_false, c_within, c_req0, rX_d]
  by_cases o1 : 0 ≤ q ∧ q ≤ 16
  case neg => simp (disch := omega) only [hk, hu, hI_n, hI_un, z_nat, em_d, zl, z_add, z_sub, z_mul, z_lt, z_eq, gI_mk, gJ_mk, cI_some, cV_some, cJ_some, cI_x, cV_x, cJ_x, uS_self, uS_ne, if_pos, if_neg, b01, b01n, ite_not, if_true, if_false, c_within, c_req0, rX_d]
  by_cases o2 : 1 ≤ m ∧ m ≤ 96
  case neg => simp (disch := omega) only [hk, hu, hI_n, hI_un, z_nat, em_d, zl, z_add, z_sub, z_mul, z_lt, z_eq, gI_mk, gJ_mk, cI_some, cV_some, cJ_some, cI_x, cV_x, cJ_x, uS_self, uS_ne, if_pos, if_neg, b01, b01n, ite_not, if_true, if_false, c_within, c_req0, rX_d]
  simp (disch := omega) only [hk, hu, hI_n, hI_un, z_nat, em_d, zl, z_add, z_sub, z_mul, z_lt, z_eq, gI_mk, gJ_mk, cI_some, cV_some, cJ_some, cI_x, cV_x, cJ_x, uS_self, uS_ne, if_pos, if_neg, b01, b01n, ite_not, if_true, if_false, c_within, c_req1]
  rw [show 9999999 = 9999998 + 1 from rfl, e_X9_span_20]
  by_cases o3 : 0 ≤ p ∧ p ≤ 2
  case neg => simp (disch := omega) only [hk, hu, hI_n, hI_un, z_nat, em_d, zl, z_add, z_sub, z_mul, z_lt, z_eq, gI_mk, gJ_mk, cI_some, cV_some, cJ_some, cI_x, cV_x, cJ_x, uS_self, uS_ne, if_pos, if_neg, b01, b01n, ite_not, if_true, if_false, c_within, c_req0, rX_d, t8]
  by_cases o4 : 0 ≤ c ∧ c < nC
  case neg => simp (disch := omega) only [hk, hu, hI_n, hI_un, z_nat, em_d, zl, z_add, z_sub, z_mul, z_lt, z_eq, gI_mk, gJ_mk, cI_some, cV_some, cJ_some, cI_x, cV_x, cJ_x, uS_self, uS_ne, if_pos, if_neg, b01, b01n, ite_not, if_true, if_false, c_within, c_req0, rX_d, t8]
  exact absurd ⟨o0, ⟨o1.1, o1.2, o2.1, o2.2⟩, o3, o4⟩ hok
end CYR
