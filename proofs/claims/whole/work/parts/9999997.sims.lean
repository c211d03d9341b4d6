/-! CALLS THAT READ: the class and the reference side by side -/
theorem sim_told {X : Nat × (Nat → Int32)} {e : Nat} {w : Bool × Bool × Bool} {S : Hp} {J : Nat → Nat → Int64} (hR : Rel w S) {p : Int} (ip : I32 p) : Out X e w S J 110 215 [.int (zI p)] oneB false := by
  obtain ⟨nT, nR, nC, rd, cd, nB, bk, s, P, B, z, hA, hk⟩ := hR
  obtain ⟨⟨hL, hs, hc, hB, hP⟩, ⟨mL0, mn0, mc0, mB0, mP0⟩, ⟨hE, ⟨hv, h50⟩, hQ⟩, ⟨t1, t2, t3, t4, t5⟩, f1, f2⟩ := id hA
  have mLb : LdP (xbS S) nT nR nC rd := LdP_u mL0 _ ⟨by decide, Or.inl (by decide)⟩
  have mLn : LdP (xnS S) nT nR nC rd := LdP_u mL0 _ ⟨by decide, Or.inl (by decide)⟩
  by_cases h1 : 0 ≤ p ∧ p ≤ 11
  · have g1 := c_told (X := X) (d := e + 57) (w := w) (S := S) (J := J) hL hs hv.1 hB.1 rfl h1
    obtain ⟨mL, mn, mc, mB, mP⟩ := hA.2.1
    refine Or.inl ⟨_, w, _, fun _ => rfl, g1, fun J2 => ?_⟩
    obtain ⟨S2, g2, hq⟩ := m_told (X := X) (d := e + 56) (w := w) (J := J2) mL mn hv.1 mB.1 f2.symm h1
    exact ⟨S2, g2, rel_end hA hk hq⟩
  · exact out_B hA hk (c := 1) rfl (by decide) (c_told0 (X := X) (d := e + 57) (w := w) (S := S) (J := J) (p := p) ip h1) (fun J2 => m_told0 (X := X) (d := e + 56) (w := w) (S := (xbS S)) (J := J2) (p := p) ip h1)
theorem sim_town {X : Nat × (Nat → Int32)} {e : Nat} {w : Bool × Bool × Bool} {S : Hp} {J : Nat → Nat → Int64} (hR : Rel w S) {t : Int} (it : I32 t) {p : Int} (ip : I32 p) : Out X e w S J 111 219 [.int (zI t), .int (zI p)] twoA false := by
  obtain ⟨nT, nR, nC, rd, cd, nB, bk, s, P, B, z, hA, hk⟩ := hR
  obtain ⟨⟨hL, hs, hc, hB, hP⟩, ⟨mL0, mn0, mc0, mB0, mP0⟩, ⟨hE, ⟨hv, h50⟩, hQ⟩, ⟨t1, t2, t3, t4, t5⟩, f1, f2⟩ := id hA
  have mLb : LdP (xbS S) nT nR nC rd := LdP_u mL0 _ ⟨by decide, Or.inl (by decide)⟩
  have mLn : LdP (xnS S) nT nR nC rd := LdP_u mL0 _ ⟨by decide, Or.inl (by decide)⟩
  by_cases h1 : 0 ≤ t ∧ t < nT
  · by_cases h2 : 0 ≤ p ∧ p ≤ 1
    · have g1 := c_town (X := X) (d := e + 56) (w := w) (S := S) (J := J) hL hs hv.1 h1 h2
      obtain ⟨mL, mn, mc, mB, mP⟩ := hA.2.1
      refine Or.inl ⟨_, w, _, fun _ => rfl, g1, fun J2 => ?_⟩
      obtain ⟨S2, g2, hq⟩ := m_town (X := X) (d := e + 57) (w := w) (J := J2) mL mn hv.1 h1 h2
      exact ⟨S2, g2, rel_end hA hk hq⟩
    · exact out_B hA hk (c := 2) rfl (by decide) (c_townB (X := X) (d := e + 56) (w := w) (S := S) (J := J) hL h1 ip h2) (fun J2 => m_townB (X := X) (d := e + 57) (w := w) (S := (xbS S)) (J := J2) mLb h1 ip h2)
  · exact out_N hA hk rfl (c_townN (X := X) (d := e + 56) (w := w) (S := S) (J := J) (p := p) hL it h1) (fun J2 => m_townN (X := X) (d := e + 57) (w := w) (S := (xnS S)) (J := J2) (p := p) mLn it h1)
theorem sim_road {X : Nat × (Nat → Int32)} {e : Nat} {w : Bool × Bool × Bool} {S : Hp} {J : Nat → Nat → Int64} (hR : Rel w S) {r : Int} (ir : I32 r) {p : Int} (ip : I32 p) : Out X e w S J 112 220 [.int (zI r), .int (zI p)] twoA false := by
  obtain ⟨nT, nR, nC, rd, cd, nB, bk, s, P, B, z, hA, hk⟩ := hR
  obtain ⟨⟨hL, hs, hc, hB, hP⟩, ⟨mL0, mn0, mc0, mB0, mP0⟩, ⟨hE, ⟨hv, h50⟩, hQ⟩, ⟨t1, t2, t3, t4, t5⟩, f1, f2⟩ := id hA
  have mLb : LdP (xbS S) nT nR nC rd := LdP_u mL0 _ ⟨by decide, Or.inl (by decide)⟩
  have mLn : LdP (xnS S) nT nR nC rd := LdP_u mL0 _ ⟨by decide, Or.inl (by decide)⟩
  by_cases h1 : 0 ≤ r ∧ r < nR
  · by_cases h2 : 0 ≤ p ∧ p ≤ 7
    · obtain ⟨S1, g1, hF⟩ := c_road (X := X) (d := e + 55) (w := w) (J := J) hL hs hv.1 hc h1 h2
      obtain ⟨hA1, hk1⟩ := rel_mid hA hk hF (by intro o ho; have eW := iW_c w.2.1; (try unfold scC at ho); (try unfold scD at ho); simp only [List.mem_cons, List.not_mem_nil, or_false] at ho; omega)
      obtain ⟨mL, mn, mc, mB, mP⟩ := hA1.2.1
      refine Or.inl ⟨_, w, _, fun _ => rfl, g1, fun J2 => ?_⟩
      obtain ⟨S2, g2, hq⟩ := m_road (X := X) (d := e + 54) (w := w) (J := J2) mL mn hv.1 mc h1 h2
      exact ⟨S2, g2, rel_end hA1 hk1 hq⟩
    · exact out_B hA hk (c := 2) rfl (by decide) (c_roadB (X := X) (d := e + 55) (w := w) (S := S) (J := J) hL h1 ip h2) (fun J2 => m_roadB (X := X) (d := e + 54) (w := w) (S := (xbS S)) (J := J2) mLb h1 ip h2)
  · exact out_N hA hk rfl (c_roadN (X := X) (d := e + 55) (w := w) (S := S) (J := J) (p := p) hL ir h1) (fun J2 => m_roadN (X := X) (d := e + 54) (w := w) (S := (xnS S)) (J := J2) (p := p) mLn ir h1)
theorem sim_carter {X : Nat × (Nat → Int32)} {e : Nat} {w : Bool × Bool × Bool} {S : Hp} {J : Nat → Nat → Int64} (hR : Rel w S) {c : Int} (ic : I32 c) {p : Int} (ip : I32 p) : Out X e w S J 113 221 [.int (zI c), .int (zI p)] twoA false := by
  obtain ⟨nT, nR, nC, rd, cd, nB, bk, s, P, B, z, hA, hk⟩ := hR
  obtain ⟨⟨hL, hs, hc, hB, hP⟩, ⟨mL0, mn0, mc0, mB0, mP0⟩, ⟨hE, ⟨hv, h50⟩, hQ⟩, ⟨t1, t2, t3, t4, t5⟩, f1, f2⟩ := id hA
  have mLb : LdP (xbS S) nT nR nC rd := LdP_u mL0 _ ⟨by decide, Or.inl (by decide)⟩
  have mLn : LdP (xnS S) nT nR nC rd := LdP_u mL0 _ ⟨by decide, Or.inl (by decide)⟩
  by_cases h1 : 0 ≤ c ∧ c < nC
  · by_cases h2 : 0 ≤ p ∧ p ≤ 4
    · have g1 := c_carter (X := X) (d := e + 56) (w := w) (S := S) (J := J) hL hs h1 h2
      obtain ⟨mL, mn, mc, mB, mP⟩ := hA.2.1
      refine Or.inl ⟨_, w, _, fun _ => rfl, g1, fun J2 => ?_⟩
      obtain ⟨S2, g2, hq⟩ := m_carter (X := X) (d := e + 57) (w := w) (J := J2) mL mn h1 h2
      exact ⟨S2, g2, rel_end hA hk hq⟩
    · exact out_B hA hk (c := 2) rfl (by decide) (c_carterB (X := X) (d := e + 56) (w := w) (S := S) (J := J) hL h1 ip h2) (fun J2 => m_carterB (X := X) (d := e + 57) (w := w) (S := (xbS S)) (J := J2) mLb h1 ip h2)
  · exact out_N hA hk rfl (c_carterN (X := X) (d := e + 56) (w := w) (S := S) (J := J) (p := p) hL ic h1) (fun J2 => m_carterN (X := X) (d := e + 57) (w := w) (S := (xnS S)) (J := J2) (p := p) mLn ic h1)
theorem sim_would {X : Nat × (Nat → Int32)} {e : Nat} {w : Bool × Bool × Bool} {S : Hp} {J : Nat → Nat → Int64} (hR : Rel w S) {a : Int} (ia : I32 a) {b : Int} (ib : I32 b) {c : Int} (ic : I32 c) {x : Int} (ix : I32 x) {y : Int} (iy : I32 y) {g : Int} (ig : I32 g) {k : Int} (ik : I32 k) {m : Int} (im : I32 m) : Out X e w S J 114 222 [.int (zI a), .int (zI b), .int (zI c), .int (zI x), .int (zI y), .int (zI g), .int (zI k), .int (zI m)] oneB false := by
  obtain ⟨nT, nR, nC, rd, cd, nB, bk, s, P, B, z, hA, hk⟩ := hR
  obtain ⟨⟨hL, hs, hc, hB, hP⟩, ⟨mL0, mn0, mc0, mB0, mP0⟩, ⟨hE, ⟨hv, h50⟩, hQ⟩, ⟨t1, t2, t3, t4, t5⟩, f1, f2⟩ := id hA
  have mLb : LdP (xbS S) nT nR nC rd := LdP_u mL0 _ ⟨by decide, Or.inl (by decide)⟩
  have mLn : LdP (xnS S) nT nR nC rd := LdP_u mL0 _ ⟨by decide, Or.inl (by decide)⟩
  by_cases h1 : okWould a b c x y g k m
  · obtain ⟨S1, g1, hF⟩ := c_would (X := X) (d := e + 56) (w := w) (J := J) hc h1
    obtain ⟨hA1, hk1⟩ := rel_mid hA hk hF (by intro o ho; have eW := iW_c w.2.1; (try unfold scC at ho); (try unfold scD at ho); simp only [List.mem_cons, List.not_mem_nil, or_false] at ho; omega)
    obtain ⟨mL, mn, mc, mB, mP⟩ := hA1.2.1
    refine Or.inl ⟨_, w, _, fun _ => rfl, g1, fun J2 => ?_⟩
    obtain ⟨S2, g2, hq⟩ := m_would (X := X) (d := e + 55) (w := w) (J := J2) mc h1
    exact ⟨S2, g2, rel_end hA1 hk1 hq⟩
  · exact out_B hA hk (c := 1) rfl (by decide) (c_would0 (X := X) (d := e + 56) (w := w) (S := S) (J := J) ia ib ic ix iy ig ik im h1) (fun J2 => m_would0 (X := X) (d := e + 55) (w := w) (S := (xbS S)) (J := J2) ia ib ic ix iy ig ik im h1)
theorem sim_lasts {X : Nat × (Nat → Int32)} {e : Nat} {w : Bool × Bool × Bool} {S : Hp} {J : Nat → Nat → Int64} (hR : Rel w S) {r : Int} (ir : I32 r) {h : Int} (ih : I32 h) : Out X e w S J 115 225 [.int (zI r), .int (zI h)] twoA false := by
  obtain ⟨nT, nR, nC, rd, cd, nB, bk, s, P, B, z, hA, hk⟩ := hR
  obtain ⟨⟨hL, hs, hc, hB, hP⟩, ⟨mL0, mn0, mc0, mB0, mP0⟩, ⟨hE, ⟨hv, h50⟩, hQ⟩, ⟨t1, t2, t3, t4, t5⟩, f1, f2⟩ := id hA
  have mLb : LdP (xbS S) nT nR nC rd := LdP_u mL0 _ ⟨by decide, Or.inl (by decide)⟩
  have mLn : LdP (xnS S) nT nR nC rd := LdP_u mL0 _ ⟨by decide, Or.inl (by decide)⟩
  by_cases h1 : 0 ≤ r ∧ r < nR
  · by_cases h2 : 0 ≤ h ∧ h ≤ 5600
    · obtain ⟨S1, g1, hF⟩ := c_lasts (X := X) (d := e + 55) (w := w) (J := J) hL hE hs hv.1 hc h1 h2
      obtain ⟨hA1, hk1⟩ := rel_mid hA hk hF (by intro o ho; have eW := iW_c w.2.1; (try unfold scC at ho); (try unfold scD at ho); simp only [List.mem_cons, List.not_mem_nil, or_false] at ho; omega)
      obtain ⟨mL, mn, mc, mB, mP⟩ := hA1.2.1
      refine Or.inl ⟨_, w, _, fun _ => rfl, g1, fun J2 => ?_⟩
      obtain ⟨S2, g2, hq⟩ := m_lasts (X := X) (d := e + 53) (w := w) (J := J2) mL hE mn hv.1 mc h1 h2
      exact ⟨S2, g2, rel_end hA1 hk1 hq⟩
    · exact out_B hA hk (c := 2) rfl (by decide) (c_lastsB (X := X) (d := e + 55) (w := w) (S := S) (J := J) hL h1 ih h2) (fun J2 => m_lastsB (X := X) (d := e + 53) (w := w) (S := (xbS S)) (J := J2) mLb h1 ih h2)
  · exact out_N hA hk rfl (c_lastsN (X := X) (d := e + 55) (w := w) (S := S) (J := J) (h := h) hL ir h1) (fun J2 => m_lastsN (X := X) (d := e + 53) (w := w) (S := (xnS S)) (J := J2) (h := h) mLn ir h1)
theorem sim_soon {X : Nat × (Nat → Int32)} {e : Nat} {w : Bool × Bool × Bool} {S : Hp} {J : Nat → Nat → Int64} (hR : Rel w S) {t : Int} (it : I32 t) {o : Int} (io : I32 o) {h : Int} (ih : I32 h) : Out X e w S J 116 228 [.int (zI t), .int (zI o), .int (zI h)] twoA false := by
  obtain ⟨nT, nR, nC, rd, cd, nB, bk, s, P, B, z, hA, hk⟩ := hR
  obtain ⟨⟨hL, hs, hc, hB, hP⟩, ⟨mL0, mn0, mc0, mB0, mP0⟩, ⟨hE, ⟨hv, h50⟩, hQ⟩, ⟨t1, t2, t3, t4, t5⟩, f1, f2⟩ := id hA
  have mLb : LdP (xbS S) nT nR nC rd := LdP_u mL0 _ ⟨by decide, Or.inl (by decide)⟩
  have mLn : LdP (xnS S) nT nR nC rd := LdP_u mL0 _ ⟨by decide, Or.inl (by decide)⟩
  by_cases h1 : (0 ≤ t ∧ t < nT) ∧ 0 ≤ o ∧ o < nT
  · by_cases h2 : 0 ≤ h ∧ h ≤ 5600
    · obtain ⟨S1, g1, hF⟩ := c_soon (X := X) (d := e + 54) (w := w) (J := J) hL hE hs hv.1 hc h1.1 h1.2 h2
      obtain ⟨hA1, hk1⟩ := rel_mid hA hk hF (by intro o ho; have eW := iW_c w.2.1; (try unfold scC at ho); (try unfold scD at ho); simp only [List.mem_cons, List.not_mem_nil, or_false] at ho; omega)
      obtain ⟨mL, mn, mc, mB, mP⟩ := hA1.2.1
      refine Or.inl ⟨_, w, _, fun _ => rfl, g1, fun J2 => ?_⟩
      obtain ⟨S2, g2, hq⟩ := m_soon (X := X) (d := e + 53) (w := w) (J := J2) mL hE mn hv.1 mc h1.1 h1.2 h2
      exact ⟨S2, g2, rel_end hA1 hk1 hq⟩
    · exact out_B hA hk (c := 2) rfl (by decide) (c_soonB (X := X) (d := e + 54) (w := w) (S := S) (J := J) hL h1.1 h1.2 ih h2) (fun J2 => m_soonB (X := X) (d := e + 53) (w := w) (S := (xbS S)) (J := J2) mLb h1.1 h1.2 ih h2)
  · exact out_N hA hk rfl (c_soonN (X := X) (d := e + 54) (w := w) (S := S) (J := J) (h := h) hL it io h1) (fun J2 => m_soonN (X := X) (d := e + 53) (w := w) (S := (xnS S)) (J := J2) (h := h) mLn it io h1)
theorem sim_way {X : Nat × (Nat → Int32)} {e : Nat} {w : Bool × Bool × Bool} {S : Hp} {J : Nat → Nat → Int64} (hR : Rel w S) {t : Int} (it : I32 t) {o : Int} (io : I32 o) {h : Int} (ih : I32 h) {p : Int} (ip : I32 p) : Out X e w S J 117 230 [.int (zI t), .int (zI o), .int (zI h), .int (zI p)] twoA false := by
  obtain ⟨nT, nR, nC, rd, cd, nB, bk, s, P, B, z, hA, hk⟩ := hR
  obtain ⟨⟨hL, hs, hc, hB, hP⟩, ⟨mL0, mn0, mc0, mB0, mP0⟩, ⟨hE, ⟨hv, h50⟩, hQ⟩, ⟨t1, t2, t3, t4, t5⟩, f1, f2⟩ := id hA
  have mLb : LdP (xbS S) nT nR nC rd := LdP_u mL0 _ ⟨by decide, Or.inl (by decide)⟩
  have mLn : LdP (xnS S) nT nR nC rd := LdP_u mL0 _ ⟨by decide, Or.inl (by decide)⟩
  by_cases h1 : (0 ≤ t ∧ t < nT) ∧ 0 ≤ o ∧ o < nT
  · by_cases h2 : (0 ≤ h ∧ h ≤ 5600) ∧ 0 ≤ p ∧ p ≤ 2
    · obtain ⟨S1, g1, hF⟩ := c_way (X := X) (d := e + 54) (w := w) (J := J) hL hE hs hv.1 hc h1.1 h1.2 h2.1 h2.2
      obtain ⟨hA1, hk1⟩ := rel_mid hA hk hF (by intro o ho; have eW := iW_c w.2.1; (try unfold scC at ho); (try unfold scD at ho); simp only [List.mem_cons, List.not_mem_nil, or_false] at ho; omega)
      obtain ⟨mL, mn, mc, mB, mP⟩ := hA1.2.1
      refine Or.inl ⟨_, w, _, fun _ => rfl, g1, fun J2 => ?_⟩
      obtain ⟨S2, g2, hq⟩ := m_way (X := X) (d := e + 53) (w := w) (J := J2) mL hE mn hv.1 mc h1.1 h1.2 h2.1 h2.2
      exact ⟨S2, g2, rel_end hA1 hk1 hq⟩
    · exact out_B hA hk (c := 2) rfl (by decide) (c_wayB (X := X) (d := e + 54) (w := w) (S := S) (J := J) hL h1.1 h1.2 ih ip h2) (fun J2 => m_wayB (X := X) (d := e + 53) (w := w) (S := (xbS S)) (J := J2) mLb h1.1 h1.2 ih ip h2)
  · exact out_N hA hk rfl (c_wayN (X := X) (d := e + 54) (w := w) (S := S) (J := J) (h := h) (n := p) hL it io h1) (fun J2 => m_wayN (X := X) (d := e + 53) (w := w) (S := (xnS S)) (J := J2) (h := h) (p := p) mLn it io h1)
theorem sim_latest {X : Nat × (Nat → Int32)} {e : Nat} {w : Bool × Bool × Bool} {S : Hp} {J : Nat → Nat → Int64} (hR : Rel w S) {t : Int} (it : I32 t) {o : Int} (io : I32 o) {h : Int} (ih : I32 h) {p : Int} (ip : I32 p) : Out X e w S J 118 231 [.int (zI t), .int (zI o), .int (zI h), .int (zI p)] twoA false := by
  obtain ⟨nT, nR, nC, rd, cd, nB, bk, s, P, B, z, hA, hk⟩ := hR
  obtain ⟨⟨hL, hs, hc, hB, hP⟩, ⟨mL0, mn0, mc0, mB0, mP0⟩, ⟨hE, ⟨hv, h50⟩, hQ⟩, ⟨t1, t2, t3, t4, t5⟩, f1, f2⟩ := id hA
  have mLb : LdP (xbS S) nT nR nC rd := LdP_u mL0 _ ⟨by decide, Or.inl (by decide)⟩
  have mLn : LdP (xnS S) nT nR nC rd := LdP_u mL0 _ ⟨by decide, Or.inl (by decide)⟩
  by_cases h1 : (0 ≤ t ∧ t < nT) ∧ 0 ≤ o ∧ o < nT
  · by_cases h2 : (0 ≤ h ∧ h ≤ 5600) ∧ 0 ≤ p ∧ p ≤ 200
    · obtain ⟨S1, g1, hF⟩ := c_latest (X := X) (d := e + 54) (w := w) (J := J) hL hE hs hv.1 hc h1.1 h1.2 h2.1 h2.2
      obtain ⟨hA1, hk1⟩ := rel_mid hA hk hF (by intro o ho; have eW := iW_c w.2.1; (try unfold scC at ho); (try unfold scD at ho); simp only [List.mem_cons, List.not_mem_nil, or_false] at ho; omega)
      obtain ⟨mL, mn, mc, mB, mP⟩ := hA1.2.1
      refine Or.inl ⟨_, w, _, fun _ => rfl, g1, fun J2 => ?_⟩
      obtain ⟨S2, g2, hq⟩ := m_latest (X := X) (d := e + 53) (w := w) (J := J2) mL hE mn hv.1 mc h1.1 h1.2 h2.1 h2.2
      exact ⟨S2, g2, rel_end hA1 hk1 hq⟩
    · exact out_B hA hk (c := 2) rfl (by decide) (c_latestB (X := X) (d := e + 54) (w := w) (S := S) (J := J) hL h1.1 h1.2 ih ip h2) (fun J2 => m_latestB (X := X) (d := e + 53) (w := w) (S := (xbS S)) (J := J2) mLb h1.1 h1.2 ih ip h2)
  · exact out_N hA hk rfl (c_latestN (X := X) (d := e + 54) (w := w) (S := S) (J := J) (h := h) (n := p) hL it io h1) (fun J2 => m_latestN (X := X) (d := e + 53) (w := w) (S := (xnS S)) (J := J2) (h := h) (n := p) mLn it io h1)
theorem sim_day {X : Nat × (Nat → Int32)} {e : Nat} {w : Bool × Bool × Bool} {S : Hp} {J : Nat → Nat → Int64} (hR : Rel w S) {t : Int} (it : I32 t) {o : Int} (io : I32 o) {p : Int} (ip : I32 p) : Out X e w S J 119 232 [.int (zI t), .int (zI o), .int (zI p)] twoA false := by
  obtain ⟨nT, nR, nC, rd, cd, nB, bk, s, P, B, z, hA, hk⟩ := hR
  obtain ⟨⟨hL, hs, hc, hB, hP⟩, ⟨mL0, mn0, mc0, mB0, mP0⟩, ⟨hE, ⟨hv, h50⟩, hQ⟩, ⟨t1, t2, t3, t4, t5⟩, f1, f2⟩ := id hA
  have mLb : LdP (xbS S) nT nR nC rd := LdP_u mL0 _ ⟨by decide, Or.inl (by decide)⟩
  have mLn : LdP (xnS S) nT nR nC rd := LdP_u mL0 _ ⟨by decide, Or.inl (by decide)⟩
  by_cases h1 : (0 ≤ t ∧ t < nT) ∧ 0 ≤ o ∧ o < nT
  · by_cases h2 : 0 ≤ p ∧ p ≤ 1
    · obtain ⟨S1, g1, hF⟩ := c_day (X := X) (d := e + 54) (w := w) (J := J) hL hE hs hv.1 h50 hc h1.1 h1.2 h2
      obtain ⟨hA1, hk1⟩ := rel_mid hA hk hF (by intro o ho; have eW := iW_c w.2.1; (try unfold scC at ho); (try unfold scD at ho); simp only [List.mem_cons, List.not_mem_nil, or_false] at ho; omega)
      obtain ⟨mL, mn, mc, mB, mP⟩ := hA1.2.1
      refine Or.inl ⟨_, w, _, fun _ => rfl, g1, fun J2 => ?_⟩
      obtain ⟨S2, g2, hq⟩ := m_day (X := X) (d := e + 53) (w := w) (J := J2) mL hE mn hv.1 mc h50 h1.1 h1.2 h2
      exact ⟨S2, g2, rel_end hA1 hk1 hq⟩
    · exact out_B hA hk (c := 2) rfl (by decide) (c_dayB (X := X) (d := e + 54) (w := w) (S := S) (J := J) hL h1.1 h1.2 ip h2) (fun J2 => m_dayB (X := X) (d := e + 53) (w := w) (S := (xbS S)) (J := J2) mLb h1.1 h1.2 ip h2)
  · exact out_N hA hk rfl (c_dayN (X := X) (d := e + 54) (w := w) (S := S) (J := J) (h := p) hL it io h1) (fun J2 => m_dayN (X := X) (d := e + 53) (w := w) (S := (xnS S)) (J := J2) (h := p) mLn it io h1)
theorem sim_farthest {X : Nat × (Nat → Int32)} {e : Nat} {w : Bool × Bool × Bool} {S : Hp} {J : Nat → Nat → Int64} (hR : Rel w S) {p : Int} (ip : I32 p) : Out X e w S J 120 233 [.int (zI p)] oneB false := by
  obtain ⟨nT, nR, nC, rd, cd, nB, bk, s, P, B, z, hA, hk⟩ := hR
  obtain ⟨⟨hL, hs, hc, hB, hP⟩, ⟨mL0, mn0, mc0, mB0, mP0⟩, ⟨hE, ⟨hv, h50⟩, hQ⟩, ⟨t1, t2, t3, t4, t5⟩, f1, f2⟩ := id hA
  have mLb : LdP (xbS S) nT nR nC rd := LdP_u mL0 _ ⟨by decide, Or.inl (by decide)⟩
  have mLn : LdP (xnS S) nT nR nC rd := LdP_u mL0 _ ⟨by decide, Or.inl (by decide)⟩
  by_cases h1 : 0 ≤ p ∧ p ≤ 2
  · obtain ⟨S1, g1, hF⟩ := c_farthest (X := X) (d := e + 54) (w := w) (J := J) hL hE hs hv.1 h50 hc h1
    obtain ⟨hA1, hk1⟩ := rel_mid hA hk hF (by intro o ho; have eW := iW_c w.2.1; (try unfold scC at ho); (try unfold scD at ho); simp only [List.mem_cons, List.not_mem_nil, or_false] at ho; omega)
    obtain ⟨mL, mn, mc, mB, mP⟩ := hA1.2.1
    refine Or.inl ⟨_, w, _, fun _ => rfl, g1, fun J2 => ?_⟩
    obtain ⟨S2, g2, hq⟩ := m_farthest (X := X) (d := e + 53) (w := w) (J := J2) mL hE mn hv.1 mc h50 h1
    exact ⟨S2, g2, rel_end hA1 hk1 hq⟩
  · exact out_B hA hk (c := 1) rfl (by decide) (c_farthestB (X := X) (d := e + 54) (w := w) (S := S) (J := J) ip h1) (fun J2 => m_farthestB (X := X) (d := e + 53) (w := w) (S := (xbS S)) (J := J2) ip h1)
theorem sim_joined {X : Nat × (Nat → Int32)} {e : Nat} {w : Bool × Bool × Bool} {S : Hp} {J : Nat → Nat → Int64} (hR : Rel w S) {t : Int} (it : I32 t) : Out X e w S J 121 239 [.int (zI t)] oneB false := by
  obtain ⟨nT, nR, nC, rd, cd, nB, bk, s, P, B, z, hA, hk⟩ := hR
  obtain ⟨⟨hL, hs, hc, hB, hP⟩, ⟨mL0, mn0, mc0, mB0, mP0⟩, ⟨hE, ⟨hv, h50⟩, hQ⟩, ⟨t1, t2, t3, t4, t5⟩, f1, f2⟩ := id hA
  have mLb : LdP (xbS S) nT nR nC rd := LdP_u mL0 _ ⟨by decide, Or.inl (by decide)⟩
  have mLn : LdP (xnS S) nT nR nC rd := LdP_u mL0 _ ⟨by decide, Or.inl (by decide)⟩
  by_cases h1 : 0 ≤ t ∧ t < 7
  · have g1 := c_joined (X := X) (d := e + 56) (w := w) (S := S) (J := J) hL hE hs hv.1 h1
    obtain ⟨mL, mn, mc, mB, mP⟩ := hA.2.1
    refine Or.inl ⟨_, w, _, fun _ => rfl, g1, fun J2 => ?_⟩
    obtain ⟨S2, g2, hq⟩ := m_joined (X := X) (d := e + 57) (w := w) (J := J2) mL hE mn hv.1 h1
    exact ⟨S2, g2, rel_end hA hk hq⟩
  · exact out_B hA hk (c := 1) rfl (by decide) (c_joinedB (X := X) (d := e + 56) (w := w) (S := S) (J := J) it h1) (fun J2 => m_joinedB (X := X) (d := e + 57) (w := w) (S := (xbS S)) (J := J2) it h1)
theorem sim_part {X : Nat × (Nat → Int32)} {e : Nat} {w : Bool × Bool × Bool} {S : Hp} {J : Nat → Nat → Int64} (hR : Rel w S) {t : Int} (it : I32 t) {o : Int} (io : I32 o) {y : Int} (iy : I32 y) : Out X e w S J 122 240 [.int (zI t), .int (zI o), .int (zI y)] twoA false := by
  obtain ⟨nT, nR, nC, rd, cd, nB, bk, s, P, B, z, hA, hk⟩ := hR
  obtain ⟨⟨hL, hs, hc, hB, hP⟩, ⟨mL0, mn0, mc0, mB0, mP0⟩, ⟨hE, ⟨hv, h50⟩, hQ⟩, ⟨t1, t2, t3, t4, t5⟩, f1, f2⟩ := id hA
  have mLb : LdP (xbS S) nT nR nC rd := LdP_u mL0 _ ⟨by decide, Or.inl (by decide)⟩
  have mLn : LdP (xnS S) nT nR nC rd := LdP_u mL0 _ ⟨by decide, Or.inl (by decide)⟩
  by_cases h1 : (0 ≤ t ∧ t < nT) ∧ 0 ≤ o ∧ o < nT
  · by_cases h2 : 0 ≤ y ∧ y < 7
    · have g1 := c_part (X := X) (d := e + 56) (w := w) (S := S) (J := J) hL hs hv.1 h1.1 h1.2 h2
      obtain ⟨mL, mn, mc, mB, mP⟩ := hA.2.1
      refine Or.inl ⟨_, w, _, fun _ => rfl, g1, fun J2 => ?_⟩
      obtain ⟨S2, g2, hq⟩ := m_part (X := X) (d := e + 57) (w := w) (J := J2) mL hE mn hv.1 h1.1 h1.2 h2
      exact ⟨S2, g2, rel_end hA hk hq⟩
    · exact out_B hA hk (c := 2) rfl (by decide) (c_partB (X := X) (d := e + 56) (w := w) (S := S) (J := J) hL h1.1 h1.2 iy h2) (fun J2 => m_partB (X := X) (d := e + 57) (w := w) (S := (xbS S)) (J := J2) mLb h1.1 h1.2 iy h2)
  · exact out_N hA hk rfl (c_partN (X := X) (d := e + 56) (w := w) (S := S) (J := J) (day := y) hL it io h1) (fun J2 => m_partN (X := X) (d := e + 57) (w := w) (S := (xnS S)) (J := J2) (day := y) mLn it io h1)
theorem sim_mend {X : Nat × (Nat → Int32)} {e : Nat} {w : Bool × Bool × Bool} {S : Hp} {J : Nat → Nat → Int64} (hR : Rel w S) {p : Int} (ip : I32 p) : Out X e w S J 123 241 [.int (zI p)] oneB false := by
  obtain ⟨nT, nR, nC, rd, cd, nB, bk, s, P, B, z, hA, hk⟩ := hR
  obtain ⟨⟨hL, hs, hc, hB, hP⟩, ⟨mL0, mn0, mc0, mB0, mP0⟩, ⟨hE, ⟨hv, h50⟩, hQ⟩, ⟨t1, t2, t3, t4, t5⟩, f1, f2⟩ := id hA
  have mLb : LdP (xbS S) nT nR nC rd := LdP_u mL0 _ ⟨by decide, Or.inl (by decide)⟩
  have mLn : LdP (xnS S) nT nR nC rd := LdP_u mL0 _ ⟨by decide, Or.inl (by decide)⟩
  by_cases h1 : 0 ≤ p ∧ p ≤ 2
  · have g1 := c_mend (X := X) (d := e + 55) (w := w) (S := S) (J := J) hL hE hs hv.1 h1
    obtain ⟨mL, mn, mc, mB, mP⟩ := hA.2.1
    refine Or.inl ⟨_, w, _, fun _ => rfl, g1, fun J2 => ?_⟩
    obtain ⟨S2, g2, hq⟩ := m_mend (X := X) (d := e + 56) (w := w) (J := J2) mL hE mn hv.1 h1
    exact ⟨S2, g2, rel_end hA hk hq⟩
  · exact out_B hA hk (c := 1) rfl (by decide) (c_mendB (X := X) (d := e + 55) (w := w) (S := S) (J := J) ip h1) (fun J2 => m_mendB (X := X) (d := e + 56) (w := w) (S := (xbS S)) (J := J2) ip h1)
theorem sim_picnic {X : Nat × (Nat → Int32)} {e : Nat} {w : Bool × Bool × Bool} {S : Hp} {J : Nat → Nat → Int64} (hR : Rel w S) {t : Int} (it : I32 t) : Out X e w S J 124 242 [.int (zI t)] oneB false := by
  obtain ⟨nT, nR, nC, rd, cd, nB, bk, s, P, B, z, hA, hk⟩ := hR
  obtain ⟨⟨hL, hs, hc, hB, hP⟩, ⟨mL0, mn0, mc0, mB0, mP0⟩, ⟨hE, ⟨hv, h50⟩, hQ⟩, ⟨t1, t2, t3, t4, t5⟩, f1, f2⟩ := id hA
  have mLb : LdP (xbS S) nT nR nC rd := LdP_u mL0 _ ⟨by decide, Or.inl (by decide)⟩
  have mLn : LdP (xnS S) nT nR nC rd := LdP_u mL0 _ ⟨by decide, Or.inl (by decide)⟩
  by_cases h1 : 0 ≤ t ∧ t < 7
  · have g1 := c_picnic (X := X) (d := e + 39) (w := w) (S := S) (J := J) hL hE hs hv.1 h1
    obtain ⟨mL, mn, mc, mB, mP⟩ := hA.2.1
    refine Or.inl ⟨_, w, _, fun _ => rfl, g1, fun J2 => ?_⟩
    obtain ⟨S2, g2, hq⟩ := m_picnic (X := X) (d := e + 57) (w := w) (J := J2) mL hE mn hv.1 h1
    exact ⟨S2, g2, rel_end hA hk hq⟩
  · exact out_B hA hk (c := 1) rfl (by decide) (c_picnicB (X := X) (d := e + 55) (w := w) (S := S) (J := J) it h1) (fun J2 => m_picnicB (X := X) (d := e + 57) (w := w) (S := (xbS S)) (J := J2) it h1)
theorem sim_fits {X : Nat × (Nat → Int32)} {e : Nat} {w : Bool × Bool × Bool} {S : Hp} {J : Nat → Nat → Int64} (hR : Rel w S) {r : Int} (ir : I32 r) : Out X e w S J 125 245 [.int (zI r)] oneN false := by
  obtain ⟨nT, nR, nC, rd, cd, nB, bk, s, P, B, z, hA, hk⟩ := hR
  obtain ⟨⟨hL, hs, hc, hB, hP⟩, ⟨mL0, mn0, mc0, mB0, mP0⟩, ⟨hE, ⟨hv, h50⟩, hQ⟩, ⟨t1, t2, t3, t4, t5⟩, f1, f2⟩ := id hA
  have mLb : LdP (xbS S) nT nR nC rd := LdP_u mL0 _ ⟨by decide, Or.inl (by decide)⟩
  have mLn : LdP (xnS S) nT nR nC rd := LdP_u mL0 _ ⟨by decide, Or.inl (by decide)⟩
  by_cases h1 : 0 ≤ r ∧ r < nR
  · obtain ⟨S1, g1, hF⟩ := c_fits (X := X) (d := e + 55) (w := w) (J := J) hL hc hB h1
    obtain ⟨hA1, hk1⟩ := rel_mid hA hk hF (by intro o ho; have eW := iW_c w.2.1; (try unfold scC at ho); (try unfold scD at ho); simp only [List.mem_cons, List.not_mem_nil, or_false] at ho; omega)
    obtain ⟨mL, mn, mc, mB, mP⟩ := hA1.2.1
    refine Or.inl ⟨_, w, _, fun _ => rfl, g1, fun J2 => ?_⟩
    obtain ⟨S2, g2, hq⟩ := m_fits (X := X) (d := e + 53) (w := w) (J := J2) mL mc mB h1
    exact ⟨S2, g2, rel_end hA1 hk1 hq⟩
  · exact out_N hA hk rfl (c_fitsN (X := X) (d := e + 55) (w := w) (S := S) (J := J) hL ir h1) (fun J2 => m_fitsN (X := X) (d := e + 53) (w := w) (S := (xnS S)) (J := J2) mLn ir h1)
theorem sim_look {X : Nat × (Nat → Int32)} {e : Nat} {w : Bool × Bool × Bool} {S : Hp} {J : Nat → Nat → Int64} (hR : Rel w S) {r : Int} (ir : I32 r) {p : Int} (ip : I32 p) : Out X e w S J 126 248 [.int (zI r), .int (zI p)] twoA false := by
  obtain ⟨nT, nR, nC, rd, cd, nB, bk, s, P, B, z, hA, hk⟩ := hR
  obtain ⟨⟨hL, hs, hc, hB, hP⟩, ⟨mL0, mn0, mc0, mB0, mP0⟩, ⟨hE, ⟨hv, h50⟩, hQ⟩, ⟨t1, t2, t3, t4, t5⟩, f1, f2⟩ := id hA
  have mLb : LdP (xbS S) nT nR nC rd := LdP_u mL0 _ ⟨by decide, Or.inl (by decide)⟩
  have mLn : LdP (xnS S) nT nR nC rd := LdP_u mL0 _ ⟨by decide, Or.inl (by decide)⟩
  by_cases h1 : 0 ≤ r ∧ r < nR
  · by_cases h2 : 0 ≤ p ∧ p ≤ 1
    · obtain ⟨S1, g1, hF, hB1⟩ := c_look (X := X) (d := e + 54) (w := w) (J := J) hL hc hB h1 h2
      obtain ⟨a1, a2, a3⟩ := FrQ_c (w := w) hF (by intro o ho; simp only [List.mem_cons, List.not_mem_nil, or_false] at ho; omega)
      have hA1 := relA_q hA a1 hB1
      have hk1 : S1 0 14 = S1 133 0 ∧ S1 0 15 = S1 133 1 := by rw [a2, a3]; exact hk
      obtain ⟨mL, mn, mc, mB, mP⟩ := hA1.2.1
      refine Or.inl ⟨_, w, _, fun _ => rfl, g1, fun J2 => ?_⟩
      obtain ⟨S2, g2, hq⟩ := m_look (X := X) (d := e + 53) (w := w) (J := J2) mL mc mB h1 h2
      exact ⟨S2, g2, rel_end hA1 hk1 hq⟩
    · exact out_B hA hk (c := 2) rfl (by decide) (c_lookB (X := X) (d := e + 54) (w := w) (S := S) (J := J) hL h1 ip h2) (fun J2 => m_lookB (X := X) (d := e + 53) (w := w) (S := (xbS S)) (J := J2) mLb h1 ip h2)
  · exact out_N hA hk rfl (c_lookN (X := X) (d := e + 54) (w := w) (S := S) (J := J) (q := p) hL ir h1) (fun J2 => m_lookN (X := X) (d := e + 53) (w := w) (S := (xnS S)) (J := J2) (q := p) mLn ir h1)
theorem sim_inn {X : Nat × (Nat → Int32)} {e : Nat} {w : Bool × Bool × Bool} {S : Hp} {J : Nat → Nat → Int64} (hR : Rel w S) {a : Int} (ia : I32 a) {b : Int} (ib : I32 b) {p : Int} (ip : I32 p) : Out X e w S J 127 250 [.int (zI a), .int (zI b), .int (zI p)] oneB false := by
  obtain ⟨nT, nR, nC, rd, cd, nB, bk, s, P, B, z, hA, hk⟩ := hR
  obtain ⟨⟨hL, hs, hc, hB, hP⟩, ⟨mL0, mn0, mc0, mB0, mP0⟩, ⟨hE, ⟨hv, h50⟩, hQ⟩, ⟨t1, t2, t3, t4, t5⟩, f1, f2⟩ := id hA
  have mLb : LdP (xbS S) nT nR nC rd := LdP_u mL0 _ ⟨by decide, Or.inl (by decide)⟩
  have mLn : LdP (xnS S) nT nR nC rd := LdP_u mL0 _ ⟨by decide, Or.inl (by decide)⟩
  by_cases h1 : (0 ≤ a ∧ a ≤ 99) ∧ (0 ≤ b ∧ b ≤ 99) ∧ 0 ≤ p ∧ p ≤ 2
  · have g1 := c_inn (X := X) (d := e + 57) (w := w) (S := S) (J := J) h1.1 h1.2.1 h1.2.2
    obtain ⟨mL, mn, mc, mB, mP⟩ := hA.2.1
    refine Or.inl ⟨_, w, _, fun _ => rfl, g1, fun J2 => ?_⟩
    have g2 := m_inn (X := X) (d := e + 58) (w := w) (S := S) (J := J2) h1.1 h1.2.1 h1.2.2
    exact ⟨_, g2, rel_end hA hk (QuM_0 _)⟩
  · exact out_B hA hk (c := 1) rfl (by decide) (c_innB (X := X) (d := e + 57) (w := w) (S := S) (J := J) ia ib ip h1) (fun J2 => m_innB (X := X) (d := e + 58) (w := w) (S := (xbS S)) (J := J2) ia ib ip h1)
theorem sim_oats {X : Nat × (Nat → Int32)} {e : Nat} {w : Bool × Bool × Bool} {S : Hp} {J : Nat → Nat → Int64} (hR : Rel w S) {c : Int} (ic : I32 c) {m : Int} (im : I32 m) {n : Int} (in_ : I32 n) : Out X e w S J 131 255 [.int (zI c), .int (zI m), .int (zI n)] twoA false := by
  obtain ⟨nT, nR, nC, rd, cd, nB, bk, s, P, B, z, hA, hk⟩ := hR
  obtain ⟨⟨hL, hs, hc, hB, hP⟩, ⟨mL0, mn0, mc0, mB0, mP0⟩, ⟨hE, ⟨hv, h50⟩, hQ⟩, ⟨t1, t2, t3, t4, t5⟩, f1, f2⟩ := id hA
  have mLb : LdP (xbS S) nT nR nC rd := LdP_u mL0 _ ⟨by decide, Or.inl (by decide)⟩
  have mLn : LdP (xnS S) nT nR nC rd := LdP_u mL0 _ ⟨by decide, Or.inl (by decide)⟩
  by_cases h1 : 0 ≤ c ∧ c < nC
  · by_cases h2 : okOat nC m n
    · have g1 := c_oats (X := X) (d := e + 56) (w := w) (S := S) (J := J) hL hs hv.1 h1 h2
      obtain ⟨mL, mn, mc, mB, mP⟩ := hA.2.1
      refine Or.inl ⟨_, w, _, fun _ => rfl, g1, fun J2 => ?_⟩
      have g2 := m_oats (X := X) (d := e + 57) (w := w) (S := S) (J := J2) mL mn hv.1 h1 h2
      exact ⟨_, g2, rel_end hA hk (QuM_0 _)⟩
    · exact out_B hA hk (c := 2) rfl (by decide) (c_oatsB (X := X) (d := e + 56) (w := w) (S := S) (J := J) hL h1 im in_ h2) (fun J2 => m_oatsB (X := X) (d := e + 57) (w := w) (S := (xbS S)) (J := J2) mLb h1 im in_ h2)
  · exact out_N hA hk rfl (c_oatsN (X := X) (d := e + 56) (w := w) (S := S) (J := J) (m := m) (n := n) hL ic h1) (fun J2 => m_oatsN (X := X) (d := e + 57) (w := w) (S := (xnS S)) (J := J2) (m := m) (n := n) mLn ic h1)
theorem sim_weariest {X : Nat × (Nat → Int32)} {e : Nat} {w : Bool × Bool × Bool} {S : Hp} {J : Nat → Nat → Int64} (hR : Rel w S) {p : Int} (ip : I32 p) : Out X e w S J 133 256 [.int (zI p)] oneB false := by
  obtain ⟨nT, nR, nC, rd, cd, nB, bk, s, P, B, z, hA, hk⟩ := hR
  obtain ⟨⟨hL, hs, hc, hB, hP⟩, ⟨mL0, mn0, mc0, mB0, mP0⟩, ⟨hE, ⟨hv, h50⟩, hQ⟩, ⟨t1, t2, t3, t4, t5⟩, f1, f2⟩ := id hA
  have mLb : LdP (xbS S) nT nR nC rd := LdP_u mL0 _ ⟨by decide, Or.inl (by decide)⟩
  have mLn : LdP (xnS S) nT nR nC rd := LdP_u mL0 _ ⟨by decide, Or.inl (by decide)⟩
  by_cases h1 : 0 ≤ p ∧ p ≤ 1
  · have g1 := c_weariest (X := X) (d := e + 57) (w := w) (S := S) (J := J) hL hs hv.1 h1
    obtain ⟨mL, mn, mc, mB, mP⟩ := hA.2.1
    refine Or.inl ⟨_, w, _, fun _ => rfl, g1, fun J2 => ?_⟩
    have g2 := m_weariest (X := X) (d := e + 58) (w := w) (S := S) (J := J2) mL mn hv.1 h1
    exact ⟨_, g2, rel_end hA hk (QuM_0 _)⟩
  · exact out_B hA hk (c := 1) rfl (by decide) (c_weariest0 (X := X) (d := e + 57) (w := w) (S := S) (J := J) ip h1) (fun J2 => m_weariestB (X := X) (d := e + 58) (w := w) (S := (xbS S)) (J := J2) ip h1)
theorem sim_arrives {X : Nat × (Nat → Int32)} {e : Nat} {w : Bool × Bool × Bool} {S : Hp} {J : Nat → Nat → Int64} (hR : Rel w S) {c : Int} (ic : I32 c) : Out X e w S J 134 257 [.int (zI c)] oneN false := by
  obtain ⟨nT, nR, nC, rd, cd, nB, bk, s, P, B, z, hA, hk⟩ := hR
  obtain ⟨⟨hL, hs, hc, hB, hP⟩, ⟨mL0, mn0, mc0, mB0, mP0⟩, ⟨hE, ⟨hv, h50⟩, hQ⟩, ⟨t1, t2, t3, t4, t5⟩, f1, f2⟩ := id hA
  have mLb : LdP (xbS S) nT nR nC rd := LdP_u mL0 _ ⟨by decide, Or.inl (by decide)⟩
  have mLn : LdP (xnS S) nT nR nC rd := LdP_u mL0 _ ⟨by decide, Or.inl (by decide)⟩
  by_cases h1 : 0 ≤ c ∧ c < nC
  · obtain ⟨S1, g1, hF⟩ := c_arrives (X := X) (d := e + 54) (w := w) (J := J) hL hs hv h50 hc h1
    obtain ⟨hA1, hk1⟩ := rel_mid hA hk hF (by intro o ho; have eW := iW_c w.2.1; (try unfold scC at ho); (try unfold scD at ho); simp only [List.mem_cons, List.not_mem_nil, or_false] at ho; omega)
    obtain ⟨mL, mn, mc, mB, mP⟩ := hA1.2.1
    refine Or.inl ⟨_, w, _, fun _ => rfl, g1, fun J2 => ?_⟩
    obtain ⟨S2, g2, hq⟩ := m_arrives (X := X) (d := e + 53) (w := w) (J := J2) mL mn hv h50 mc h1
    exact ⟨S2, g2, rel_end hA1 hk1 hq⟩
  · exact out_N hA hk rfl (c_arrivesN (X := X) (d := e + 54) (w := w) (S := S) (J := J) hL ic h1) (fun J2 => m_arrivesN (X := X) (d := e + 53) (w := w) (S := (xnS S)) (J := J2) mLn ic h1)
theorem sim_reach {X : Nat × (Nat → Int32)} {e : Nat} {w : Bool × Bool × Bool} {S : Hp} {J : Nat → Nat → Int64} (hR : Rel w S) {t : Int} (it : I32 t) {p : Int} (ip : I32 p) : Out X e w S J 135 234 [.int (zI t), .int (zI p)] twoA false := by
  obtain ⟨nT, nR, nC, rd, cd, nB, bk, s, P, B, z, hA, hk⟩ := hR
  obtain ⟨⟨hL, hs, hc, hB, hP⟩, ⟨mL0, mn0, mc0, mB0, mP0⟩, ⟨hE, ⟨hv, h50⟩, hQ⟩, ⟨t1, t2, t3, t4, t5⟩, f1, f2⟩ := id hA
  have mLb : LdP (xbS S) nT nR nC rd := LdP_u mL0 _ ⟨by decide, Or.inl (by decide)⟩
  have mLn : LdP (xnS S) nT nR nC rd := LdP_u mL0 _ ⟨by decide, Or.inl (by decide)⟩
  by_cases h1 : 0 ≤ t ∧ t < nT
  · by_cases h2 : 0 ≤ p ∧ p ≤ 200
    · obtain ⟨S1, g1, hF⟩ := c_reach (X := X) (d := e + 54) (w := w) (J := J) hL hE hs hv.1 h50 hc h1 h2
      obtain ⟨hA1, hk1⟩ := rel_mid hA hk hF (by intro o ho; have eW := iW_c w.2.1; (try unfold scC at ho); (try unfold scD at ho); simp only [List.mem_cons, List.not_mem_nil, or_false] at ho; omega)
      obtain ⟨mL, mn, mc, mB, mP⟩ := hA1.2.1
      refine Or.inl ⟨_, w, _, fun _ => rfl, g1, fun J2 => ?_⟩
      obtain ⟨S2, g2, hq⟩ := m_reach (X := X) (d := e + 53) (w := w) (J := J2) mL hE mn hv.1 mc h50 h1 h2
      exact ⟨S2, g2, rel_end hA1 hk1 hq⟩
    · exact out_B hA hk (c := 2) rfl (by decide) (c_reachB (X := X) (d := e + 54) (w := w) (S := S) (J := J) hL h1 ip h2) (fun J2 => m_reachB (X := X) (d := e + 53) (w := w) (S := (xbS S)) (J := J2) mLb h1 ip h2)
  · exact out_N hA hk rfl (c_reachN (X := X) (d := e + 54) (w := w) (S := S) (J := J) (h := p) hL it h1) (fun J2 => m_reachN (X := X) (d := e + 53) (w := w) (S := (xnS S)) (J := J2) (n := p) mLn it h1)
theorem sim_year {X : Nat × (Nat → Int32)} {e : Nat} {w : Bool × Bool × Bool} {S : Hp} {J : Nat → Nat → Int64} (hR : Rel w S) {a : Int} (ia : I32 a) {q : Int} (iq : I32 q) {m : Int} (im : I32 m) {p : Int} (ip : I32 p) : Out X e w S J 136 261 [.int (zI a), .int (zI q), .int (zI m), .int (zI p)] oneB false := by
  obtain ⟨nT, nR, nC, rd, cd, nB, bk, s, P, B, z, hA, hk⟩ := hR
  obtain ⟨⟨hL, hs, hc, hB, hP⟩, ⟨mL0, mn0, mc0, mB0, mP0⟩, ⟨hE, ⟨hv, h50⟩, hQ⟩, ⟨t1, t2, t3, t4, t5⟩, f1, f2⟩ := id hA
  have mLb : LdP (xbS S) nT nR nC rd := LdP_u mL0 _ ⟨by decide, Or.inl (by decide)⟩
  have mLn : LdP (xnS S) nT nR nC rd := LdP_u mL0 _ ⟨by decide, Or.inl (by decide)⟩
  by_cases h1 : okYear q m ∧ 0 ≤ p ∧ p ≤ 3
  · obtain ⟨S1, g1, hF⟩ := c_year (X := X) (d := e + 52) (w := w) (J := J) hL hE hs hv h50 hc h1.1 h1.2
    obtain ⟨hA1, hk1⟩ := rel_mid hA hk hF (by intro o ho; have eW := iW_c w.2.1; (try unfold scC at ho); (try unfold scD at ho); simp only [List.mem_cons, List.not_mem_nil, or_false] at ho; omega)
    obtain ⟨mL, mn, mc, mB, mP⟩ := hA1.2.1
    refine Or.inl ⟨_, w, _, fun _ => rfl, g1, fun J2 => ?_⟩
    obtain ⟨S2, g2, hq⟩ := m_year (X := X) (d := e + 51) (w := w) (J := J2) mL hE mn hv h50 mc h1.1 h1.2
    exact ⟨S2, g2, rel_end hA1 hk1 hq⟩
  · exact out_B hA hk (c := 1) rfl (by decide) (c_year0 (X := X) (d := e + 52) (w := w) (S := S) (J := J) (sd := a) iq im ip h1) (fun J2 => m_year0 (X := X) (d := e + 51) (w := w) (S := (xbS S)) (J := J2) (sd := a) iq im ip h1)
theorem sim_span {X : Nat × (Nat → Int32)} {e : Nat} {w : Bool × Bool × Bool} {S : Hp} {J : Nat → Nat → Int64} (hR : Rel w S) {a : Int} (ia : I32 a) {n : Int} (in_ : I32 n) {q : Int} (iq : I32 q) {m : Int} (im : I32 m) {p : Int} (ip : I32 p) {c : Int} (ic : I32 c) : Out X e w S J 137 262 [.int (zI a), .int (zI n), .int (zI q), .int (zI m), .int (zI p), .int (zI c)] oneB false := by
  obtain ⟨nT, nR, nC, rd, cd, nB, bk, s, P, B, z, hA, hk⟩ := hR
  obtain ⟨⟨hL, hs, hc, hB, hP⟩, ⟨mL0, mn0, mc0, mB0, mP0⟩, ⟨hE, ⟨hv, h50⟩, hQ⟩, ⟨t1, t2, t3, t4, t5⟩, f1, f2⟩ := id hA
  have mLb : LdP (xbS S) nT nR nC rd := LdP_u mL0 _ ⟨by decide, Or.inl (by decide)⟩
  have mLn : LdP (xnS S) nT nR nC rd := LdP_u mL0 _ ⟨by decide, Or.inl (by decide)⟩
  by_cases h1 : (1 ≤ n ∧ n ≤ 10) ∧ okYear q m ∧ (0 ≤ p ∧ p ≤ 2) ∧ 0 ≤ c ∧ c < nC
  · obtain ⟨S1, g1, hF⟩ := c_span (X := X) (d := e + 52) (w := w) (J := J) hL hs hv h50 hc h1.1 h1.2.1 h1.2.2.1 h1.2.2.2
    obtain ⟨hA1, hk1⟩ := rel_mid hA hk hF (by intro o ho; have eW := iW_c w.2.1; (try unfold scC at ho); (try unfold scD at ho); simp only [List.mem_cons, List.not_mem_nil, or_false] at ho; omega)
    obtain ⟨mL, mn, mc, mB, mP⟩ := hA1.2.1
    refine Or.inl ⟨_, w, _, fun _ => rfl, g1, fun J2 => ?_⟩
    obtain ⟨S2, g2, hq⟩ := m_span (X := X) (d := e + 51) (w := w) (J := J2) mL mn hv h50 mc h1.1 h1.2.1 h1.2.2.1 h1.2.2.2
    exact ⟨S2, g2, rel_end hA1 hk1 hq⟩
  · exact out_B hA hk (c := 1) rfl (by decide) (c_span0 (X := X) (d := e + 52) (w := w) (S := S) (J := J) (sd := a) hL in_ iq im ip ic h1) (fun J2 => m_span0 (X := X) (d := e + 51) (w := w) (S := (xbS S)) (J := J2) (sd := a) mLb in_ iq im ip ic h1)
