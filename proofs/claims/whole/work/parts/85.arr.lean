/-! WHEN A CARTER ARRIVES: only his road counts -/
def arrF (cd : List (Int × Int)) (rd : Int → Int) (nR nC c : Int) : Nat → Int → (Int → Int) → Int
  | 0, _, _ => -1
  | j + 1, i, s => if s (34 + c) = -1 then i else arrF cd rd nR nC c j (i + 1) (hourF cd rd nR nC s)
def Sim (nC r : Int) (u s : Int → Int) : Prop := u 50 = s 50 ∧ u r = s r ∧ u (12 + r) = s (12 + r) ∧ ∀ c, 0 ≤ c → c < nC → (u (34 + c) = r ↔ s (34 + c) = r) ∧ u (44 + c) = s (44 + c) ∧ (s (34 + c) = r → u (39 + c) = s (39 + c))
theorem sim_load {nC r : Int} {u s : Int → Int} (h : Sim nC r u s) : onB nC u r = onB nC s r ∧ loadOn nC u r = loadOn nC s r ∧ manyOn nC u r = manyOn nC s r := by
  refine ⟨bits_congr _ (fun c c1 c2 => ?_), sumZ_congr _ (fun c c1 c2 => ?_), sumZ_congr _ (fun c c1 c2 => ?_)⟩
  · have := (h.2.2.2 c c1 (by omega)).1
    by_cases q : s (34 + c) = r
    · rw [decide_eq_true (this.mpr q), decide_eq_true q]
    · rw [decide_eq_false (fun z => q (this.mp z)), decide_eq_false q]
  · obtain ⟨this, h2, -⟩ := h.2.2.2 c c1 (by omega)
    show (if u (34 + c) = r then u (44 + c) else 0) = (if s (34 + c) = r then s (44 + c) else 0)
    rw [h2]
    by_cases q : s (34 + c) = r
    · rw [if_pos (this.mpr q), if_pos q]
    · rw [if_neg (fun z => q (this.mp z)), if_neg q]
  · have := (h.2.2.2 c c1 (by omega)).1
    show (if u (34 + c) = r then (1 : Int) else 0) = (if s (34 + c) = r then 1 else 0)
    by_cases q : s (34 + c) = r
    · rw [if_pos (this.mpr q), if_pos q]
    · rw [if_neg (fun z => q (this.mp z)), if_neg q]
theorem sim_rst {nC r : Int} {u s : Int → Int} (h : Sim nC r u s) : rst u r ↔ rst s r := by
  unfold rst
  rw [h.1, h.2.1]
theorem sim_p (cd : List (Int × Int)) (rd : Int → Int) {nC r : Int} {u s : Int → Int} (h : Sim nC r u s) : pBy cd rd nC u r = pBy cd rd nC s r := by
  obtain ⟨h1, h2, h3⟩ := sim_load h
  unfold pBy onPace
  by_cases q : rst s r
  · rw [if_pos ((sim_rst h).mpr q), if_pos q]
  · rw [if_neg (fun z => q ((sim_rst h).mp z)), if_neg q, h2, h3, h.2.2.1, h.1]
theorem sim_comes (cd : List (Int × Int)) (rd : Int → Int) {nC r c : Int} {u s : Int → Int} (h : Sim nC r u s) (hc : 0 ≤ c ∧ c < nC) (q : s (34 + c) = r) : (comes cd rd nC u c ↔ comes cd rd nC s c) ∧ gonF cd rd nC u c = gonF cd rd nC s c := by
  obtain ⟨h1, h2, h3⟩ := h.2.2.2 c hc.1 hc.2
  have e34 := h1.mpr q
  have e39 := h3 q
  have ep := sim_p cd rd h
  have er := sim_rst h
  have e1 : comes cd rd nC u c ↔ comes cd rd nC s c := by
    unfold comes
    rw [e34, e39, q, ep, er]
  refine ⟨e1, ?_⟩
  unfold gonF
  by_cases y : comes cd rd nC s c
  · rw [if_pos (e1.mpr y), if_pos y]
  · rw [if_neg (fun z => y (e1.mp z)), if_neg y]
    simp only [e34, e39, q, ep, er]
theorem passF_o (cd : List (Int × Int)) (rd : Int → Int) {nC : Int} (s : Int → Int) {r k : Int} (hC5 : nC ≤ 5) (hk : k ≠ 12 + r) (h : k < 34 ∨ (44 ≤ k ∧ k ≠ 49)) : passF cd rd nC s r k = s k := by
  unfold passF
  rw [if_neg hk, if_neg (by omega), if_neg (fun z => by have := z.1; have := z.2.1; omega), if_neg (fun z => by have := z.1; have := z.2.1; omega)]
theorem passF_34 (cd : List (Int × Int)) (rd : Int → Int) {nC : Int} (s : Int → Int) {r c : Int} (hr : 0 ≤ r ∧ r < 12) (hC5 : nC ≤ 5) (hc : 0 ≤ c ∧ c < nC) : passF cd rd nC s r (34 + c) = if s (34 + c) = r then (if comes cd rd nC s c then -1 else s (34 + c)) else s (34 + c) := by
  unfold passF
  rw [if_neg (by omega), if_neg (by omega), show 34 + c - 34 = c by omega]
  by_cases q : s (34 + c) = r
  · rw [if_pos ⟨by omega, by omega, q⟩, if_pos q]
  · rw [if_neg (fun z => q z.2.2), if_neg q, if_neg (fun z => by have := z.1; omega)]
theorem passF_39 (cd : List (Int × Int)) (rd : Int → Int) {nC : Int} (s : Int → Int) {r c : Int} (hr : 0 ≤ r ∧ r < 12) (hC5 : nC ≤ 5) (hc : 0 ≤ c ∧ c < nC) : passF cd rd nC s r (39 + c) = if s (34 + c) = r then gonF cd rd nC s c else s (39 + c) := by
  unfold passF
  rw [if_neg (by omega), if_neg (by omega), show 39 + c - 39 = c by omega, if_neg (fun z => by have := z.2.1; omega)]
  by_cases q : s (34 + c) = r
  · rw [if_pos ⟨by omega, by omega, q⟩, if_pos q]
  · rw [if_neg (fun z => q z.2.2), if_neg q]
theorem passF_w (cd : List (Int × Int)) {rd : Int → Int} {nR nC r : Int} {u : Int → Int} (h : Sw nR nC u) (hrd : Rd nR rd) (hr : 0 ≤ r ∧ r < nR) (hR : nR ≤ 12) (hC5 : nC ≤ 5) (v : Int) : Sw nR nC (pu (passF cd rd nC u r) 50 v) := by
  refine ⟨fun k k1 k2 => ?_, fun c c1 c2 => ?_⟩
  · rw [pu_o _ (by omega), passF_o cd rd u hC5 (by omega) (by omega)]
    exact h.1 k k1 k2
  · rw [pu_o _ (by omega), pu_o _ (by omega), passF_34 cd rd u (by omega) hC5 ⟨c1, c2⟩, passF_39 cd rd u (by omega) hC5 ⟨c1, c2⟩]
    obtain ⟨w1, w2, w3, w4⟩ := h.2 c c1 c2
    by_cases q : u (34 + c) = r
    · rw [if_pos q, if_pos q]
      have hp := pBy_r cd rd nC u r
      obtain ⟨-, -, -, -, l1, l2⟩ := hrd r hr.1 hr.2
      unfold gonF
      by_cases y : comes cd rd nC u c
      · rw [if_pos y, if_pos y]
        omega
      · rw [if_neg y, if_neg y, q]
        by_cases y2 : ¬ r = -1 ∧ ¬ rst u r
        · rw [if_pos y2]
          have : ¬ rd (4 * r + 2) ≤ u (39 + c) + pBy cd rd nC u r := fun z => y (by unfold comes; rw [q]; exact ⟨y2.1, y2.2, z⟩)
          omega
        · rw [if_neg y2]
          omega
    · rw [if_neg q, if_neg q]
      exact ⟨w1, w2, w3, w4⟩
theorem sim_go (cd : List (Int × Int)) (rd : Int → Int) {nR nC r : Int} {u s : Int → Int} (h : Sim nC r u s) (hr : 0 ≤ r ∧ r < nR) (hR : nR ≤ 12) (hC5 : nC ≤ 5) : Sim nC r (pu (passF cd rd nC u r) 50 (u 50 + 1)) (hourF cd rd nR nC s) := by
  obtain ⟨h1, h2, h3, h4⟩ := id h
  refine ⟨?_, ?_, ?_, fun c c1 c2 => ?_⟩
  · rw [pu_s, hourF_50, h1]
  · rw [pu_o _ (by omega), passF_o cd rd u hC5 (by omega) (by omega), hourF_o cd rd s hR hC5 (by omega)]
    exact h2
  · rw [pu_o _ (by omega), hourF_12 cd rd s hR hr]
    unfold passF
    rw [if_pos rfl, (sim_load h).1, h3]
    by_cases q : rst s r
    · rw [if_pos ((sim_rst h).mpr q), if_pos q]
    · rw [if_neg (fun z => q ((sim_rst h).mp z)), if_neg q]
  · obtain ⟨g1, g2, g3⟩ := h4 c c1 c2
    rw [pu_o _ (by omega), pu_o _ (by omega), pu_o _ (by omega), passF_34 cd rd u (by omega) hC5 ⟨c1, c2⟩, passF_39 cd rd u (by omega) hC5 ⟨c1, c2⟩, passF_o cd rd u hC5 (by omega) (by omega), hourF_34 cd rd s hR hC5 ⟨c1, c2⟩, hourF_39 cd rd s hR hC5 ⟨c1, c2⟩, hourF_o cd rd s hR hC5 (k := 44 + c) (by omega)]
    by_cases q : s (34 + c) = r
    · obtain ⟨y1, y2⟩ := sim_comes cd rd h ⟨c1, c2⟩ q
      rw [if_pos (g1.mpr q), if_pos (g1.mpr q), y2]
      by_cases z : comes cd rd nC s c
      · rw [if_pos (y1.mpr z), if_pos z]
        exact ⟨Iff.rfl, g2, fun _ => rfl⟩
      · rw [if_neg (fun x => z (y1.mp x)), if_neg z]
        exact ⟨g1, g2, fun _ => rfl⟩
    · have q2 : ¬ u (34 + c) = r := fun z => q (g1.mp z)
      rw [if_neg q2, if_neg q2]
      have q3 : ¬ (if comes cd rd nC s c then -1 else s (34 + c)) = r := by
        split
        · omega
        · exact q
      exact ⟨⟨fun z => absurd z q2, fun z => absurd z q3⟩, g2, fun z => absurd z q3⟩
section CAR
variable {X : Nat × (Nat → Int32)} {d : Nat} {w : Bool × Bool × Bool} {S : Hp} {J : Nat → Nat → Int64} {nT nR nC : Int} {rd s : Int → Int} {cd : List (Int × Int)}
theorem l_arrives (hL : CL S (iL w.1) nT nR nC rd) (hc : CW S (iW w.2.1) cd) {c r : Int} (hcc : 0 ≤ c ∧ c < nC) (hr : 0 ≤ r ∧ r < nR) : ∀ (j : Nat) (i : Int) (u s : Int → Int) (T : Hp), i + j = 1000 → 1 ≤ i → Fr (scC (iW w.2.1)) S T → CS nR nC T 17 u → Sw nR nC u → Sim nC r u s → InvS rd nR nC s → s 50 + j ≤ 7999 → s (34 + c) = r → ∃ S', (∀ n, j + 1 ≤ n → aR X (d + 4) m_X9_arrives n 21 [some (.ref 0), some (.int (zI c)), some (.int (zI r)), some (.int (zI i))] (1, 6) (mkS w (hI T) J) = some (.inl (some (.int (zI (arrF cd rd nR nC c j i (hourF cd rd nR nC s))))), (mkS w (hI S') J))) ∧ Fr (scC (iW w.2.1)) S S'
  | 0, i, u, s, T, hij, hi, hF, hu1, hu2, hs1, hs2, hs3, hs4 => by
    refine ⟨T, fun n hn => ?_, hF⟩
    obtain ⟨n, rfl⟩ : ∃ n', n = n' + 1 := ⟨n - 1, by omega⟩
    rw [e_X9_arrives_21]
    simp (disch := omega) only [hk, hu, hI_n, hI_un, z_nat, em_d, zl, z_add, z_sub, z_mul, z_lt, z_eq, gI_mk, gJ_mk, cI_some, cV_some, cJ_some, cI_x, cV_x, cJ_x, uS_self, uS_ne, if_pos, if_neg, b01, b01n, ite_not, if_true, if_false, hLL, rI_d]
    rfl
  | j + 1, i, u, s, T, hij, hi, hF, hu1, hu2, hs1, hs2, hs3, hs4 => by
    have hw := iW_c w.2.1
    have hl := iL_c w.1
    obtain ⟨-, -, -, -, -, -, a7, a8, a9, a10, a11⟩ := id hL
    have hL1 : CL T (iL w.1) nT nR nC rd := CL_fr hL hF (fun i hi => by simp only [scC, List.mem_cons, List.not_mem_nil, or_false]; omega)
    have hc1 : CW T (iW w.2.1) cd := CW_fr hc hF (fun i hi => by simp only [scC, List.mem_cons, List.not_mem_nil, or_false]; omega)
    have t50 := hs2.1.2.2.1
    obtain ⟨T', h1, h2, h3, h4⟩ := c_passOn (X := X) (d := d) (w := w) (J := J) (bs := true) hL1 hu1 hu2 (by rw [hs1.1]; omega) hc1 hr
    have e8 : T' 17 8 = u 50 := (h4 8 (by decide)).trans hu1.2.2.1
    have hu1' : CS nR nC (uS T' 17 8 (u 50 + 1)) 17 (pu (passF cd rd nC u r) 50 (u 50 + 1)) := by
      refine ⟨fun k k1 k2 => ?_, fun k k1 k2 => ?_, ?_, ?_⟩
      · rw [uS_row _ _ _ (by omega), uS_row _ _ _ (by omega), pu_o _ (by omega), pu_o _ (by omega)]
        exact h2.1 k k1 k2
      · rw [uS_row _ _ _ (by omega), uS_row _ _ _ (by omega), uS_row _ _ _ (by omega), uS_row _ _ _ (by omega), uS_row _ _ _ (by omega), pu_o _ (by omega), pu_o _ (by omega), pu_o _ (by omega), pu_o _ (by omega), pu_o _ (by omega)]
        exact h2.2.1 k k1 k2
      · rw [uS_self, pu_s]
      · rw [uS_ne _ _ (Or.inr (by decide)), pu_o _ (by decide)]
        exact h2.2.2.2
    have hF' : Fr (scC (iW w.2.1)) S (uS T' 17 8 (u 50 + 1)) := Fr_tr (Fr_tr hF h3 (fun _ z => z) (fun o ho => by simp only [CS17, scC, List.mem_cons, List.not_mem_nil, or_false] at ho ⊢; omega)) (Fr_u _ (L := scC (iW w.2.1)) _ _ (by simp [scC])) (fun _ z => z) (fun _ z => z)
    have hsim := sim_go cd rd hs1 hr a8 a10
    have hinv := inv_hour cd hs2 a11 a8 ⟨a9, a10⟩ (by omega)
    have h50 := hourF_50 cd rd nR nC s
    have e22 : uS T' 17 8 (u 50 + 1) 22 c = pu (passF cd rd nC u r) 50 (u 50 + 1) (34 + c) := (hu1'.2.1 c hcc.1 hcc.2).2.2.1
    have y := hsim.2.2.2 c hcc.1 hcc.2
    have h34 := hourF_34 cd rd s a8 a10 hcc
    have ea : arrF cd rd nR nC c (j + 1) i (hourF cd rd nR nC s) = if hourF cd rd nR nC s (34 + c) = -1 then i else arrF cd rd nR nC c j (i + 1) (hourF cd rd nR nC (hourF cd rd nR nC s)) := rfl
    have ev : pu (passF cd rd nC u r) 50 (u 50 + 1) (34 + c) = hourF cd rd nR nC s (34 + c) := by
      obtain ⟨g1, g2, g3⟩ := hs1.2.2.2 c hcc.1 hcc.2
      obtain ⟨y1, y2⟩ := sim_comes cd rd hs1 hcc hs4
      rw [pu_o _ (by omega), passF_34 cd rd u (by omega) a10 hcc, h34, if_pos (g1.mpr hs4)]
      by_cases z : comes cd rd nC s c
      · rw [if_pos (y1.mpr z), if_pos z]
      · rw [if_neg (fun x => z (y1.mp x)), if_neg z]
        exact (g1.mpr hs4).trans hs4.symm
    by_cases q : hourF cd rd nR nC s (34 + c) = -1
    · refine ⟨uS T' 17 8 (u 50 + 1), fun n hn => ?_, hF'⟩
      obtain ⟨n, rfl⟩ : ∃ n', n = n' + 1 := ⟨n - 1, by omega⟩
      rw [e_X9_arrives_21, ea, if_pos q]
      simp (disch := omega) only [hk, hu, hI_n, hI_un, z_nat, em_d, zl, z_add, z_sub, z_mul, z_lt, z_eq, gI_mk, gJ_mk, cI_some, cV_some, cJ_some, cI_x, cV_x, cJ_x, uS_self, uS_ne, if_pos, if_neg, b01, b01n, ite_not, if_true, if_false, hLL]
      refine (congrArg (fun z => cV z _ _) h1).trans ?_
      simp (disch := omega) only [hk, hu, hI_n, hI_un, z_nat, em_d, zl, z_add, z_sub, z_mul, z_lt, z_eq, gI_mk, gJ_mk, cI_some, cV_some, cJ_some, cI_x, cV_x, cJ_x, uS_self, uS_ne, if_pos, if_neg, b01, b01n, ite_not, if_true, if_false, hLL, e8]
      have e22 : T' 22 c = -1 := by
        rw [uS_row _ _ _ (by decide)] at e22
        rw [e22, ev, q]
      simp (disch := omega) only [hk, hu, hI_n, hI_un, z_nat, em_d, zl, z_add, z_sub, z_mul, z_lt, z_eq, gI_mk, gJ_mk, cI_some, cV_some, cJ_some, cI_x, cV_x, cJ_x, uS_self, uS_ne, if_pos, if_neg, b01, b01n, ite_not, if_true, if_false, hLL, e22, rI_d]
    · have q2 : hourF cd rd nR nC s (34 + c) = r := by
        rw [h34] at q ⊢
        by_cases z : comes cd rd nC s c
        · rw [if_pos z] at q
          exact absurd rfl q
        · rw [if_neg z]
          exact hs4
      obtain ⟨S', k1, k2⟩ := l_arrives hL hc hcc hr j (i + 1) _ _ (uS T' 17 8 (u 50 + 1)) (by omega) (by omega) hF' hu1' (passF_w cd hu2 a11 hr a8 a10 _) hsim hinv (by omega) q2
      refine ⟨S', fun n hn => ?_, k2⟩
      obtain ⟨n, rfl⟩ : ∃ n', n = n' + 1 := ⟨n - 1, by omega⟩
      rw [e_X9_arrives_21, ea, if_neg q]
      simp (disch := omega) only [hk, hu, hI_n, hI_un, z_nat, em_d, zl, z_add, z_sub, z_mul, z_lt, z_eq, gI_mk, gJ_mk, cI_some, cV_some, cJ_some, cI_x, cV_x, cJ_x, uS_self, uS_ne, if_pos, if_neg, b01, b01n, ite_not, if_true, if_false, hLL]
      refine (congrArg (fun z => cV z _ _) h1).trans ?_
      simp (disch := omega) only [hk, hu, hI_n, hI_un, z_nat, em_d, zl, z_add, z_sub, z_mul, z_lt, z_eq, gI_mk, gJ_mk, cI_some, cV_some, cJ_some, cI_x, cV_x, cJ_x, uS_self, uS_ne, if_pos, if_neg, b01, b01n, ite_not, if_true, if_false, hLL, e8]
      have e22 : T' 22 c = r := by
        rw [uS_row _ _ _ (by decide)] at e22
        rw [e22, ev, q2]
      simp (disch := omega) only [hk, hu, hI_n, hI_un, z_nat, em_d, zl, z_add, z_sub, z_mul, z_lt, z_eq, gI_mk, gJ_mk, cI_some, cV_some, cJ_some, cI_x, cV_x, cJ_x, uS_self, uS_ne, if_pos, if_neg, b01, b01n, ite_not, if_true, if_false, hLL, e22]
      exact k1 n (by omega)
theorem c_arrives (hL : CL S (iL w.1) nT nR nC rd) (hs : CS nR nC S 8 s) (hv : InvS rd nR nC s) (h50 : s 50 ≤ 5600) (hc : CW S (iW w.2.1) cd) {c : Int} (hcc : 0 ≤ c ∧ c < nC) : ∃ S', am_call X aP (d + 5) 134 [.ref 0, .int (zI c)] (mkS w (hI S) J) = some (.inl (some (.int (zI (arrF cd rd nR nC c 1000 0 s)))), (mkS w (hI S') J)) ∧ Fr (scC (iW w.2.1)) S S' := by
  obtain ⟨-, -, -, -, -, -, a7, a8, a9, a10, a11⟩ := id hL
  have e13 : S 13 c = s (34 + c) := (hs.2.1 c hcc.1 hcc.2).2.2.1
  have hw34 := (Sc_w hv.1).2 c hcc.1 hcc.2
  have ea : arrF cd rd nR nC c 1000 0 s = if s (34 + c) = -1 then 0 else arrF cd rd nR nC c 999 1 (hourF cd rd nR nC s) := rfl
  by_cases q : s (34 + c) = -1
  · refine ⟨S, ?_, Fr_rf _ _⟩
    rw [go_X9_arrives, e_X9_arrives_0, ea, if_pos q]
    simp (disch := omega) only [hk, hu, hI_n, hI_un, z_nat, em_d, zl, z_add, z_sub, z_mul, z_lt, z_eq, gI_mk, gJ_mk, cI_some, cV_some, cJ_some, cI_x, cV_x, cJ_x, uS_self, uS_ne, if_pos, if_neg, b01, b01n, ite_not, if_true, if_false, c_carter1 hL hcc]
    rw [show 9999999 = 9999998 + 1 from rfl, e_X9_arrives_3]
    simp (disch := omega) only [hk, hu, hI_n, hI_un, z_nat, em_d, zl, z_add, z_sub, z_mul, z_lt, z_eq, gI_mk, gJ_mk, cI_some, cV_some, cJ_some, cI_x, cV_x, cJ_x, uS_self, uS_ne, if_pos, if_neg, b01, b01n, ite_not, if_true, if_false, e13, q, rI_d]
  · obtain ⟨T, h1, h2, h3, -⟩ := c_become (X := X) (d := d + 2) (w := w) (J := J) hs a8 a10
    have hF : Fr (scC (iW w.2.1)) S T := Fr_mono h3 (fun o ho => by simp only [scC, List.mem_cons, List.not_mem_nil, or_false] at ho ⊢; omega)
    have i50 := hv.1.2.2.1
    obtain ⟨S', k1, k2⟩ := l_arrives (X := X) (d := d) (w := w) (J := J) hL hc hcc (r := s (34 + c)) (by omega) 999 1 s s T (by omega) (by omega) hF h2 (Sc_w hv.1) ⟨rfl, rfl, rfl, fun _ _ _ => ⟨Iff.rfl, rfl, fun _ => rfl⟩⟩ hv (by omega) rfl
    refine ⟨S', ?_, k2⟩
    rw [go_X9_arrives, e_X9_arrives_0, ea, if_neg q]
    simp (disch := omega) only [hk, hu, hI_n, hI_un, z_nat, em_d, zl, z_add, z_sub, z_mul, z_lt, z_eq, gI_mk, gJ_mk, cI_some, cV_some, cJ_some, cI_x, cV_x, cJ_x, uS_self, uS_ne, if_pos, if_neg, b01, b01n, ite_not, if_true, if_false, c_carter1 hL hcc]
    rw [show 9999999 = 9999998 + 1 from rfl, e_X9_arrives_3]
    simp (disch := omega) only [hk, hu, hI_n, hI_un, z_nat, em_d, zl, z_add, z_sub, z_mul, z_lt, z_eq, gI_mk, gJ_mk, cI_some, cV_some, cJ_some, cI_x, cV_x, cJ_x, uS_self, uS_ne, if_pos, if_neg, b01, b01n, ite_not, if_true, if_false, e13]
    rw [h1]
    simp (disch := omega) only [hk, hu, hI_n, hI_un, z_nat, em_d, zl, z_add, z_sub, z_mul, z_lt, z_eq, gI_mk, gJ_mk, cI_some, cV_some, cJ_some, cI_x, cV_x, cJ_x, uS_self, uS_ne, if_pos, if_neg, b01, b01n, ite_not, if_true, if_false]
    exact k1 9999998 (by omega)
theorem c_arrivesN (hL : CL S (iL w.1) nT nR nC rd) {c : Int} (hb : -2147483648 ≤ c ∧ c < 2147483648) (hn : ¬ (0 ≤ c ∧ c < nC)) : am_call X aP (d + 5) 134 [.ref 0, .int (zI c)] (mkS w (hI S) J) = some (.inr 1, (mkS w (hI (xnS S)) J)) := by
  rw [go_X9_arrives, e_X9_arrives_0]
  simp (disch := omega) only [hk, hu, hI_n, hI_un, z_nat, em_d, zl, z_add, z_sub, z_mul, z_lt, z_eq, gI_mk, gJ_mk, cI_some, cV_some, cJ_some, cI_x, cV_x, cJ_x, uS_self, uS_ne, if_pos, if_neg, b01, b01n, ite_not, if_true, if_false, c_carter0 hL hb hn, rX_d]
theorem ml_arrives (hL : LdP S nT nR nC rd) (hc : CdP S cd) {c : Int} (hcc : 0 ≤ c ∧ c < nC) : ∀ (j : Nat) (i : Int) (s : Int → Int) (T : Hp), i + j = 1000 → 0 ≤ i → QuM S T → ScP nR nC T s → InvS rd nR nC s → s 50 + j ≤ 7999 → ∃ S', (∀ n, j + 1 ≤ n → aR X (d + 6) m_X10_arrives n 13 [some (.ref 132), some (.int (zI c)), some (.int (zI i))] (0, 0) (mkS w (hI T) J) = some (.inl (some (.int (zI (arrF cd rd nR nC c j i s)))), (mkS w (hI S') J))) ∧ QuM S S'
  | 0, i, s, T, hij, hi, hq, hs1, hs2, hs3 => by
    refine ⟨T, fun n hn => ?_, hq⟩
    obtain ⟨n, rfl⟩ : ∃ n', n = n' + 1 := ⟨n - 1, by omega⟩
    rw [e_X10_arrives_13]
    simp (disch := omega) only [hk, hu, hI_n, hI_un, z_nat, em_d, zl, z_add, z_sub, z_mul, z_lt, z_eq, gI_mk, gJ_mk, cI_some, cV_some, cJ_some, cI_x, cV_x, cJ_x, uS_self, uS_ne, if_pos, if_neg, b01, b01n, ite_not, if_true, if_false, rI_d]
    rfl
  | j + 1, i, s, T, hij, hi, hq, hs1, hs2, hs3 => by
    obtain ⟨-, -, -, -, -, -, a7, a8, a9, a10, a11⟩ := id hL
    have e34 := hs1 (34 + c) (by unfold Vd; omega)
    have hw34 := (Sc_w hs2.1).2 c hcc.1 hcc.2
    have ea : arrF cd rd nR nC c (j + 1) i s = if s (34 + c) = -1 then i else arrF cd rd nR nC c j (i + 1) (hourF cd rd nR nC s) := rfl
    by_cases q : s (34 + c) = -1
    · refine ⟨T, fun n hn => ?_, hq⟩
      obtain ⟨n, rfl⟩ : ∃ n', n = n' + 1 := ⟨n - 1, by omega⟩
      rw [e_X10_arrives_13, ea, if_pos q]
      simp (disch := omega) only [hk, hu, hI_n, hI_un, z_nat, em_d, zl, z_add, z_sub, z_mul, z_lt, z_eq, gI_mk, gJ_mk, cI_some, cV_some, cJ_some, cI_x, cV_x, cJ_x, uS_self, uS_ne, if_pos, if_neg, b01, b01n, ite_not, if_true, if_false, e34, q, rI_d]
    · obtain ⟨T', h1, h2, h3⟩ := m_dayGoes (X := X) (d := d) (w := w) (J := J) (LdP_q hL hq) hs1 hs2.1 (CdP_q hc hq)
      have h50 := hourF_50 cd rd nR nC s
      obtain ⟨S', k1, k2⟩ := ml_arrives hL hc hcc j (i + 1) _ T' (by omega) (by omega) (QuM_fr hq h3 (by decide) (by decide)) h2 (inv_hour cd hs2 a11 a8 ⟨a9, a10⟩ (by omega)) (by omega)
      refine ⟨S', fun n hn => ?_, k2⟩
      obtain ⟨n, rfl⟩ : ∃ n', n = n' + 1 := ⟨n - 1, by omega⟩
      rw [e_X10_arrives_13, ea, if_neg q]
      simp (disch := omega) only [hk, hu, hI_n, hI_un, z_nat, em_d, zl, z_add, z_sub, z_mul, z_lt, z_eq, gI_mk, gJ_mk, cI_some, cV_some, cJ_some, cI_x, cV_x, cJ_x, uS_self, uS_ne, if_pos, if_neg, b01, b01n, ite_not, if_true, if_false, e34]
      rw [h1]
      simp (disch := omega) only [hk, hu, hI_n, hI_un, z_nat, em_d, zl, z_add, z_sub, z_mul, z_lt, z_eq, gI_mk, gJ_mk, cI_some, cV_some, cJ_some, cI_x, cV_x, cJ_x, uS_self, uS_ne, if_pos, if_neg, b01, b01n, ite_not, if_true, if_false]
      exact k1 n (by omega)
theorem m_arrives (hL : LdP S nT nR nC rd) (hn : NwP nR nC S s) (hv : InvS rd nR nC s) (h50 : s 50 ≤ 5600) (hc : CdP S cd) {c : Int} (hcc : 0 ≤ c ∧ c < nC) : ∃ S', am_call X aP (d + 7) 257 [.ref 132, .int (zI c)] (mkS w (hI S) J) = some (.inl (some (.int (zI (arrF cd rd nR nC c 1000 0 s)))), (mkS w (hI S') J)) ∧ QuM S S' := by
  have hq0 := QuM_0 S
  obtain ⟨-, -, -, -, -, -, a7, a8, a9, a10, a11⟩ := id hL
  obtain ⟨S1, h1, h2, h3⟩ := m_takeP (X := X) (d := d + 4) (w := w) (J := J) (NwP_q hn hq0) a8 a10
  obtain ⟨S', k1, k2⟩ := ml_arrives (X := X) (d := d) (w := w) (J := J) hL hc hcc 1000 0 s S1 (by omega) (by omega) (QuM_fr hq0 h3 (by decide) (by decide)) h2 hv (by omega)
  refine ⟨S', ?_, k2⟩
  rw [go_X10_arrives, e_X10_arrives_0, z_0, hu.1, m_isCarter1 (LdP_q hL hq0) (uS_self _ _ _ _) hcc]
  simp (disch := omega) only [hk, hu, hI_n, hI_un, z_nat, em_d, zl, z_add, z_sub, z_mul, z_lt, z_eq, gI_mk, gJ_mk, cI_some, cV_some, cJ_some, cI_x, cV_x, cJ_x, uS_self, uS_ne, if_pos, if_neg, b01, b01n, ite_not, if_true, if_false]
  rw [h1]
  simp (disch := omega) only [hk, hu, hI_n, hI_un, z_nat, em_d, zl, z_add, z_sub, z_mul, z_lt, z_eq, gI_mk, gJ_mk, cI_some, cV_some, cJ_some, cI_x, cV_x, cJ_x, uS_self, uS_ne, if_pos, if_neg, b01, b01n, ite_not, if_true, if_false]
  exact k1 9999999 (by omega)
theorem m_arrivesN (hL : LdP S nT nR nC rd) {c : Int} (hb : -2147483648 ≤ c ∧ c < 2147483648) (hn : ¬ (0 ≤ c ∧ c < nC)) : am_call X aP (d + 7) 257 [.ref 132, .int (zI c)] (mkS w (hI S) J) = some (.inl (some (.int (zI 0))), (mkS w (hI (mxN S)) J)) := by
  rw [go_X10_arrives, e_X10_arrives_0, z_0, hu.1, m_isCarter0 (LdP_q hL (QuM_0 S)) (uS_self _ _ _ _) hb hn]
  simp (disch := omega) only [hk, hu, hI_n, hI_un, z_nat, em_d, zl, z_add, z_sub, z_mul, z_lt, z_eq, gI_mk, gJ_mk, cI_some, cV_some, cJ_some, cI_x, cV_x, cJ_x, uS_self, uS_ne, if_pos, if_neg, b01, b01n, ite_not, if_true, if_false, rI_d]
  rfl
end CAR
