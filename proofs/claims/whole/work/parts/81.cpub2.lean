/-! WAYS ASKED OF THE CLASS: day, farthest, latest -/
theorem loopF {α : Type} (R : Nat → Int → α → Hp → aRes) (g : Int → α → α) (V : Int → α → Hp → Prop) (K : Int) (c1 : Nat) (step : ∀ k a T, 0 ≤ k → k < K → V k a T → ∃ T', V (k + 1) (g k a) T' ∧ ∀ n, c1 ≤ n → ∃ n', n ≤ n' + c1 ∧ R n k a T = R n' (k + 1) (g k a) T') : ∀ (j : Nat) (k : Int) (a : α) (T : Hp), 0 ≤ k → k + j = K → V k a T → ∃ T', V K (fold g j k a) T' ∧ ∀ n, c1 * j ≤ n → ∃ n', n ≤ n' + c1 * j ∧ R n k a T = R n' K (fold g j k a) T'
  | 0, k, a, T, _, h, hv => by
    have : k = K := by omega
    subst this
    exact ⟨T, hv, fun n _ => ⟨n, by omega, rfl⟩⟩
  | j + 1, k, a, T, h0, h, hv => by
    have hc : c1 * (j + 1) = c1 * j + c1 := Nat.mul_succ _ _
    obtain ⟨T1, p1, p2⟩ := step k a T h0 (by omega) hv
    obtain ⟨T2, q1, q2⟩ := loopF R g V K c1 step j (k + 1) (g k a) T1 (by omega) (by omega) p1
    refine ⟨T2, q1, fun n hn => ?_⟩
    obtain ⟨n1, h1, h2⟩ := p2 n (by omega)
    obtain ⟨n2, h3, h4⟩ := q2 n1 (by omega)
    exact ⟨n2, by omega, h2.trans h4⟩
abbrev latP (F : Int → Int) (h n w : Int) : Prop := ¬ F (h + w) = -1 ∧ F (h + w) + w ≤ n
def latD (F : Int → Int) (h n : Int) : Nat → Int
  | 0 => if latP F h n 0 then 0 else -1
  | m + 1 => if latP F h n ((m + 1 : Nat) : Int) then ((m + 1 : Nat) : Int) else latD F h n m
theorem latD_u {F : Int → Int} {h n b : Int} : ∀ m : Nat, (b = -1 ∨ (0 ≤ b ∧ b ≤ m ∧ latP F h n b)) → (∀ w, b < w → 0 ≤ w → w ≤ m → ¬ latP F h n w) → latD F h n m = b
  | 0, hb, hw => by
    show (if latP F h n 0 then (0 : Int) else -1) = b
    rcases hb with rfl | ⟨b1, b2, b3⟩
    · rw [if_neg (hw 0 (by decide) (by decide) (by decide))]
    · have : b = 0 := by omega
      subst this
      rw [if_pos b3]
  | m + 1, hb, hw => by
    show (if latP F h n ((m + 1 : Nat) : Int) then ((m + 1 : Nat) : Int) else latD F h n m) = b
    by_cases e : b = ((m + 1 : Nat) : Int)
    · rcases hb with rfl | ⟨b1, b2, b3⟩
      · omega
      · rw [← e, if_pos b3]
    · have h1 : b < ((m + 1 : Nat) : Int) := by
        rcases hb with rfl | ⟨b1, b2, b3⟩ <;> omega
      rw [if_neg (hw _ h1 (by omega) (by omega))]
      refine latD_u m ?_ (fun w w1 w2 w3 => hw w w1 w2 (by omega))
      rcases hb with rfl | ⟨b1, b2, b3⟩
      · exact Or.inl rfl
      · exact Or.inr ⟨b1, by omega, b3⟩
section CPD
variable {X : Nat × (Nat → Int32)} {d : Nat} {w : Bool × Bool × Bool} {S : Hp} {J : Nat → Nat → Int64} {nT nR nC : Int} {rd s : Int → Int} {cd : List (Int × Int)}
theorem c_day (hL : CL S (iL w.1) nT nR nC rd) (hE : Ends nT nR rd) (hs : CS nR nC S 8 s) (hv : Sc nR nC s) (h50 : s 50 ≤ 5600) (hc : CW S (iW w.2.1) cd) {t o p : Int} (ht : 0 ≤ t ∧ t < nT) (ho : 0 ≤ o ∧ o < nT) (hp : 0 ≤ p ∧ p ≤ 1) : ∃ S', am_call X aP (d + 5) 119 [.ref 0, .int (zI t), .int (zI o), .int (zI p)] (mkS w (hI S) J) = some (.inl (some (.int (zI (if p = 0 then (dayR (fun h => soonF rd s (plainZ cd rd) nT nR t h o) (s 50)).1 else (dayR (fun h => soonF rd s (plainZ cd rd) nT nR t h o) (s 50)).2)))), (mkS w (hI S') J)) ∧ Fr (scD (iW w.2.1)) S S' := by
  obtain ⟨a1, -, -, -, a5, a6, a7, -⟩ := id hL
  have t50 := hv.2.2.1
  have hn := scD_n (iW w.2.1) (iW_c _) (iL w.1) (iL_c _)
  obtain ⟨S1, h1, h2⟩ := c_meas (X := X) (d := d) (w := w) (J := J) hL hc
  have e50 : S1 8 8 = s 50 := by rw [h2.1 8 hn.2.2.2.1]; exact hs.2.2.1
  obtain ⟨S2, ⟨q1, q2, q3⟩, q4⟩ := loopF (fun n k (a : Int × Int) T => aR X (d + 4) m_X9_day n 39 [some (.ref 0), some (.int (zI t)), some (.int (zI o)), some (.int (zI p)), some (.int (zI (((s 50 + 7) / 8)))), some (.int (zI a.1)), some (.int (zI a.2)), some (.int (zI k)), none] (3, 18) (mkS w (hI T) J)) (dayG (fun h => soonF rd s (plainZ cd rd) nT nR t h o) ((s 50 + 7) / 8)) (fun k a T => Wy (iW w.2.1) nR (plainZ cd rd) S T ∧ (-1 ≤ a.1 ∧ a.1 < 7) ∧ -1 ≤ a.2 ∧ a.2 ≤ 999) 7 2 (fun k a T k1 k2 hV => by
    obtain ⟨hW, ha1, ha2⟩ := hV
    obtain ⟨T', p1, p2, p3, -⟩ := c_sear (X := X) (d := d) (w := w) (J := J) hL hE hs hv hW (t := t) (h := ((s 50 + 7) / 8 + k) * 8) ht (by omega)
    have e := p2 o ho.1 (by omega)
    have hr := soon_r cd (s := s) (h := ((s 50 + 7) / 8 + k) * 8) hE a5 a7 ht o
    simp only [dayG]
    generalize soonF rd s (plainZ cd rd) nT nR t (((s 50 + 7) / 8 + k) * 8) o = v at e hr
    refine ⟨T', ⟨p3, ?_⟩, fun n hn => ?_⟩
    · split
      · exact ⟨by show -1 ≤ ((s 50 + 7) / 8 + k) % 7 ∧ ((s 50 + 7) / 8 + k) % 7 < 7; omega, hr⟩
      · exact ⟨ha1, ha2⟩
    · obtain ⟨n, rfl⟩ : ∃ n', n = n' + 2 := ⟨n - 2, by omega⟩
      by_cases r1 : ¬ v = -1 ∧ (a.2 = -1 ∨ v < a.2)
      · refine ⟨n, by omega, ?_⟩
        rw [if_pos r1]
        show aR X (d + 4) m_X9_day (n + 1 + 1) 39 [some (.ref 0), some (.int (zI t)), some (.int (zI o)), some (.int (zI p)), some (.int (zI (((s 50 + 7) / 8)))), some (.int (zI a.1)), some (.int (zI a.2)), some (.int (zI k)), none] (3, 18) (mkS w (hI T) J) = aR X (d + 4) m_X9_day n 39 [some (.ref 0), some (.int (zI t)), some (.int (zI o)), some (.int (zI p)), some (.int (zI (((s 50 + 7) / 8)))), some (.int (zI ((((s 50 + 7) / 8 + k) % 7)))), some (.int (zI v)), some (.int (zI ((k + 1)))), none] (3, 18) (mkS w (hI T') J)
        obtain ⟨r1, r2⟩ := r1
        rw [e_X9_day_39]
        simp (disch := omega) only [hk, hu, hI_n, hI_un, z_nat, em_d, zl, z_add, z_sub, z_mul, z_lt, z_eq, gI_mk, gJ_mk, cI_some, cV_some, cJ_some, cI_x, cV_x, cJ_x, uS_self, uS_ne, if_pos, if_neg, b01, b01n, ite_not, if_true, if_false, hLL]
        rw [p1]
        rcases r2 with r2 | r2
        · simp (disch := omega) only [hk, hu, hI_n, hI_un, z_nat, em_d, zl, z_add, z_sub, z_mul, z_lt, z_eq, gI_mk, gJ_mk, cI_some, cV_some, cJ_some, cI_x, cV_x, cJ_x, uS_self, uS_ne, if_pos, if_neg, b01, b01n, ite_not, if_true, if_false, hLL, e, r2]
          rw [e_X9_day_70]
          simp (disch := omega) only [hk, hu, hI_n, hI_un, z_nat, em_d, zl, z_add, z_sub, z_mul, z_lt, z_eq, gI_mk, gJ_mk, cI_some, cV_some, cJ_some, cI_x, cV_x, cJ_x, uS_self, uS_ne, if_pos, if_neg, b01, b01n, ite_not, if_true, if_false, hLL, z_div]
        · by_cases r3 : a.2 = -1
          · exact absurd r2 (by omega)
          · simp (disch := omega) only [hk, hu, hI_n, hI_un, z_nat, em_d, zl, z_add, z_sub, z_mul, z_lt, z_eq, gI_mk, gJ_mk, cI_some, cV_some, cJ_some, cI_x, cV_x, cJ_x, uS_self, uS_ne, if_pos, if_neg, b01, b01n, ite_not, if_true, if_false, hLL, e]
            rw [e_X9_day_70]
            simp (disch := omega) only [hk, hu, hI_n, hI_un, z_nat, em_d, zl, z_add, z_sub, z_mul, z_lt, z_eq, gI_mk, gJ_mk, cI_some, cV_some, cJ_some, cI_x, cV_x, cJ_x, uS_self, uS_ne, if_pos, if_neg, b01, b01n, ite_not, if_true, if_false, hLL, z_div]
      · refine ⟨n + 1, by omega, ?_⟩
        rw [if_neg r1]
        show aR X (d + 4) m_X9_day (n + 1 + 1) 39 [some (.ref 0), some (.int (zI t)), some (.int (zI o)), some (.int (zI p)), some (.int (zI (((s 50 + 7) / 8)))), some (.int (zI a.1)), some (.int (zI a.2)), some (.int (zI k)), none] (3, 18) (mkS w (hI T) J) = aR X (d + 4) m_X9_day (n + 1) 39 [some (.ref 0), some (.int (zI t)), some (.int (zI o)), some (.int (zI p)), some (.int (zI (((s 50 + 7) / 8)))), some (.int (zI a.1)), some (.int (zI a.2)), some (.int (zI ((k + 1)))), none] (3, 18) (mkS w (hI T') J)
        rw [e_X9_day_39]
        simp (disch := omega) only [hk, hu, hI_n, hI_un, z_nat, em_d, zl, z_add, z_sub, z_mul, z_lt, z_eq, gI_mk, gJ_mk, cI_some, cV_some, cJ_some, cI_x, cV_x, cJ_x, uS_self, uS_ne, if_pos, if_neg, b01, b01n, ite_not, if_true, if_false, hLL]
        rw [p1]
        by_cases r2 : v = -1
        · simp (disch := omega) only [hk, hu, hI_n, hI_un, z_nat, em_d, zl, z_add, z_sub, z_mul, z_lt, z_eq, gI_mk, gJ_mk, cI_some, cV_some, cJ_some, cI_x, cV_x, cJ_x, uS_self, uS_ne, if_pos, if_neg, b01, b01n, ite_not, if_true, if_false, hLL, e, r2]
        · have r3 : ¬ a.2 = -1 := fun z => r1 ⟨r2, Or.inl z⟩
          have r4 : ¬ v < a.2 := fun z => r1 ⟨r2, Or.inr z⟩
          simp (disch := omega) only [hk, hu, hI_n, hI_un, z_nat, em_d, zl, z_add, z_sub, z_mul, z_lt, z_eq, gI_mk, gJ_mk, cI_some, cV_some, cJ_some, cI_x, cV_x, cJ_x, uS_self, uS_ne, if_pos, if_neg, b01, b01n, ite_not, if_true, if_false, hLL, e]) 7 0 (-1, -1) S1 (by omega) (by omega) ⟨h2, by decide, by decide⟩
  obtain ⟨n1, k2, k3⟩ := q4 9999996 (by omega)
  obtain ⟨n1, rfl⟩ : ∃ n', n1 = n' + 1 := ⟨n1 - 1, by omega⟩
  refine ⟨S2, ?_, q1.1⟩
  rw [go_X9_day, e_X9_day_0]
  simp (disch := omega) only [hk, hu, hI_n, hI_un, z_nat, em_d, zl, z_add, z_sub, z_mul, z_lt, z_eq, gI_mk, gJ_mk, cI_some, cV_some, cJ_some, cI_x, cV_x, cJ_x, uS_self, uS_ne, if_pos, if_neg, b01, b01n, ite_not, if_true, if_false, c_town1 hL ht]
  rw [show 9999999 = 9999998 + 1 from rfl, e_X9_day_3]
  simp (disch := omega) only [hk, hu, hI_n, hI_un, z_nat, em_d, zl, z_add, z_sub, z_mul, z_lt, z_eq, gI_mk, gJ_mk, cI_some, cV_some, cJ_some, cI_x, cV_x, cJ_x, uS_self, uS_ne, if_pos, if_neg, b01, b01n, ite_not, if_true, if_false, c_town1 hL ho]
  have k3 : aR X (d + 4) m_X9_day 9999996 39 [some (.ref 0), some (.int (zI t)), some (.int (zI o)), some (.int (zI p)), some (.int (zI (((s 50 + 7) / 8)))), some (.int (zI ((-1)))), some (.int (zI ((-1)))), some (.int (zI 0)), none] (3, 18) (mkS w (hI S1) J) = aR X (d + 4) m_X9_day (n1 + 1) 39 [some (.ref 0), some (.int (zI t)), some (.int (zI o)), some (.int (zI p)), some (.int (zI (((s 50 + 7) / 8)))), some (.int (zI ((dayR (fun h => soonF rd s (plainZ cd rd) nT nR t h o) (s 50)).1))), some (.int (zI ((dayR (fun h => soonF rd s (plainZ cd rd) nT nR t h o) (s 50)).2))), some (.int (zI 7)), none] (3, 18) (mkS w (hI S2) J) := k3
  generalize dayR (fun h => soonF rd s (plainZ cd rd) nT nR t h o) (s 50) = b at k3
  have e7 : s 50 + 8 - 1 = s 50 + 7 := by omega
  have hlast : aR X (d + 4) m_X9_day (9999996 + 1) 16 [some (.ref 0), some (.int (zI t)), some (.int (zI o)), some (.int (zI p)), none, none, none, none, none] (3, 18) (mkS w (hI S) J) = some (.inl (some (.int (zI (if p = 0 then b.1 else b.2)))), (mkS w (hI S2) J)) := by
    rw [e_X9_day_16, h1]
    simp (disch := omega) only [hk, hu, hI_n, hI_un, z_nat, em_d, zl, z_add, z_sub, z_mul, z_lt, z_eq, gI_mk, gJ_mk, cI_some, cV_some, cJ_some, cI_x, cV_x, cJ_x, uS_self, uS_ne, if_pos, if_neg, b01, b01n, ite_not, if_true, if_false, hLL, e50, z_div, e7]
    rw [k3, e_X9_day_39]
    by_cases p0 : p = 0
    · simp (disch := omega) only [hk, hu, hI_n, hI_un, z_nat, em_d, zl, z_add, z_sub, z_mul, z_lt, z_eq, gI_mk, gJ_mk, cI_some, cV_some, cJ_some, cI_x, cV_x, cJ_x, uS_self, uS_ne, if_pos, if_neg, b01, b01n, ite_not, if_true, if_false, hLL, p0, rI_d]
    · simp (disch := omega) only [hk, hu, hI_n, hI_un, z_nat, em_d, zl, z_add, z_sub, z_mul, z_lt, z_eq, gI_mk, gJ_mk, cI_some, cV_some, cJ_some, cI_x, cV_x, cJ_x, uS_self, uS_ne, if_pos, if_neg, b01, b01n, ite_not, if_true, if_false, hLL, rI_d]
  rw [show 9999998 = 9999997 + 1 from rfl, e_X9_day_6]
  have : p = 0 ∨ p = 1 := by omega
  rcases this with rfl | rfl
  · simp (disch := omega) only [hk, hu, hI_n, hI_un, z_nat, em_d, zl, z_add, z_sub, z_mul, z_lt, z_eq, gI_mk, gJ_mk, cI_some, cV_some, cJ_some, cI_x, cV_x, cJ_x, uS_self, uS_ne, if_pos, if_neg, b01, b01n, ite_not, if_true, if_false, c_req1]
    exact hlast
  · simp (disch := omega) only [hk, hu, hI_n, hI_un, z_nat, em_d, zl, z_add, z_sub, z_mul, z_lt, z_eq, gI_mk, gJ_mk, cI_some, cV_some, cJ_some, cI_x, cV_x, cJ_x, uS_self, uS_ne, if_pos, if_neg, b01, b01n, ite_not, if_true, if_false, c_req1]
    exact hlast
theorem c_dayN (hL : CL S (iL w.1) nT nR nC rd) {t o h : Int} (hr : -2147483648 ≤ t ∧ t < 2147483648) (hr2 : -2147483648 ≤ o ∧ o < 2147483648) (hn : ¬ ((0 ≤ t ∧ t < nT) ∧ 0 ≤ o ∧ o < nT)) : am_call X aP (d + 5) 119 [.ref 0, .int (zI t), .int (zI o), .int (zI h)] (mkS w (hI S) J) = some (.inr 1, (mkS w (hI (xnS S)) J)) := by
  rw [go_X9_day, e_X9_day_0]
  by_cases q : 0 ≤ t ∧ t < nT
  · simp (disch := omega) only [hk, hu, hI_n, hI_un, z_nat, em_d, zl, z_add, z_sub, z_mul, z_lt, z_eq, gI_mk, gJ_mk, cI_some, cV_some, cJ_some, cI_x, cV_x, cJ_x, uS_self, uS_ne, if_pos, if_neg, b01, b01n, ite_not, if_true, if_false, c_town1 hL q]
    rw [show 9999999 = 9999998 + 1 from rfl, e_X9_day_3]
    simp (disch := omega) only [hk, hu, hI_n, hI_un, z_nat, em_d, zl, z_add, z_sub, z_mul, z_lt, z_eq, gI_mk, gJ_mk, cI_some, cV_some, cJ_some, cI_x, cV_x, cJ_x, uS_self, uS_ne, if_pos, if_neg, b01, b01n, ite_not, if_true, if_false, c_town0 hL hr2 (fun z => hn ⟨q, z⟩), rX_d]
  · simp (disch := omega) only [hk, hu, hI_n, hI_un, z_nat, em_d, zl, z_add, z_sub, z_mul, z_lt, z_eq, gI_mk, gJ_mk, cI_some, cV_some, cJ_some, cI_x, cV_x, cJ_x, uS_self, uS_ne, if_pos, if_neg, b01, b01n, ite_not, if_true, if_false, c_town0 hL hr q, rX_d]
theorem c_dayB (hL : CL S (iL w.1) nT nR nC rd) {t o h : Int} (ht : 0 ≤ t ∧ t < nT) (ho : 0 ≤ o ∧ o < nT) (hh : -2147483648 ≤ h ∧ h < 2147483648) (hn : ¬ (0 ≤ h ∧ h ≤ 1)) : am_call X aP (d + 5) 119 [.ref 0, .int (zI t), .int (zI o), .int (zI h)] (mkS w (hI S) J) = some (.inr 2, (mkS w (hI (xbS S)) J)) := by
  rw [go_X9_day, e_X9_day_0]
  simp (disch := omega) only [hk, hu, hI_n, hI_un, z_nat, em_d, zl, z_add, z_sub, z_mul, z_lt, z_eq, gI_mk, gJ_mk, cI_some, cV_some, cJ_some, cI_x, cV_x, cJ_x, uS_self, uS_ne, if_pos, if_neg, b01, b01n, ite_not, if_true, if_false, c_town1 hL ht]
  rw [show 9999999 = 9999998 + 1 from rfl, e_X9_day_3]
  simp (disch := omega) only [hk, hu, hI_n, hI_un, z_nat, em_d, zl, z_add, z_sub, z_mul, z_lt, z_eq, gI_mk, gJ_mk, cI_some, cV_some, cJ_some, cI_x, cV_x, cJ_x, uS_self, uS_ne, if_pos, if_neg, b01, b01n, ite_not, if_true, if_false, c_town1 hL ho]
  rw [show 9999998 = 9999997 + 1 from rfl, e_X9_day_6]
  simp (disch := omega) only [hk, hu, hI_n, hI_un, z_nat, em_d, zl, z_add, z_sub, z_mul, z_lt, z_eq, gI_mk, gJ_mk, cI_some, cV_some, cJ_some, cI_x, cV_x, cJ_x, uS_self, uS_ne, if_pos, if_neg, b01, b01n, ite_not, if_true, if_false, c_req0, rX_d]
theorem farG_r {D : Int → Int} (hD : DR D) {a nT : Int} (ha : 0 ≤ a ∧ a < nT) {b : Int} (hb : 0 ≤ b ∧ b < nT) {x : Int × Int × Int} (hx : (-1 ≤ x.1 ∧ x.1 < nT) ∧ (-1 ≤ x.2.1 ∧ x.2.1 < nT) ∧ -1 ≤ x.2.2 ∧ x.2.2 ≤ 999) : (-1 ≤ (farG D a b x).1 ∧ (farG D a b x).1 < nT) ∧ (-1 ≤ (farG D a b x).2.1 ∧ (farG D a b x).2.1 < nT) ∧ -1 ≤ (farG D a b x).2.2 ∧ (farG D a b x).2.2 ≤ 999 := by
  have := hD b
  unfold farG
  split
  · exact ⟨⟨by show -1 ≤ a; omega, ha.2⟩, ⟨by show -1 ≤ b; omega, hb.2⟩, this⟩
  · exact hx
theorem c_farthest (hL : CL S (iL w.1) nT nR nC rd) (hE : Ends nT nR rd) (hs : CS nR nC S 8 s) (hv : Sc nR nC s) (h50 : s 50 ≤ 5600) (hc : CW S (iW w.2.1) cd) {p : Int} (hp : 0 ≤ p ∧ p ≤ 2) : ∃ S', am_call X aP (d + 5) 120 [.ref 0, .int (zI p)] (mkS w (hI S) J) = some (.inl (some (.int (zI (if p = 0 then (farR (fun a => soonF rd s (plainZ cd rd) nT nR a (s 50)) nT).1 else if p = 1 then (farR (fun a => soonF rd s (plainZ cd rd) nT nR a (s 50)) nT).2.1 else (farR (fun a => soonF rd s (plainZ cd rd) nT nR a (s 50)) nT).2.2)))), (mkS w (hI S') J)) ∧ Fr (scD (iW w.2.1)) S S' := by
  obtain ⟨a1, -, -, -, a5, a6, a7, -⟩ := id hL
  have t50 := hv.2.2.1
  have hn := scD_n (iW w.2.1) (iW_c _) (iL w.1) (iL_c _)
  obtain ⟨S1, h1, h2⟩ := c_meas (X := X) (d := d) (w := w) (J := J) hL hc
  obtain ⟨S2, ⟨q1, q2⟩, q4⟩ := loopF (fun n k (a : Int × Int × Int) T => aR X (d + 4) m_X9_farthest n 21 [some (.ref 0), some (.int (zI p)), some (.int (zI a.1)), some (.int (zI a.2.1)), some (.int (zI a.2.2)), some (.int (zI k)), none] (1, 6) (mkS w (hI T) J)) (fun a x => fold (farG (soonF rd s (plainZ cd rd) nT nR a (s 50)) a) nT.toNat 0 x) (fun k a T => Wy (iW w.2.1) nR (plainZ cd rd) S T ∧ (-1 ≤ a.1 ∧ a.1 < nT) ∧ (-1 ≤ a.2.1 ∧ a.2.1 < nT) ∧ -1 ≤ a.2.2 ∧ a.2.2 ≤ 999) nT 9 (fun k a T k1 k2 hV => by
    obtain ⟨hW, ha⟩ := hV
    obtain ⟨T', p1, p2, p3, -⟩ := c_sear (X := X) (d := d) (w := w) (J := J) hL hE hs hv hW (t := k) (h := s 50) ⟨k1, k2⟩ (by omega)
    have hr := soon_r cd (s := s) (h := s 50) hE a5 a7 ⟨k1, k2⟩
    have t6 : T (iL w.1) 6 = nT := by rw [hW.1 (iL w.1) (hn.2.1 0 (by omega))]; exact a1
    have t6' : T' (iL w.1) 6 = nT := by rw [p3.1 (iL w.1) (hn.2.1 0 (by omega))]; exact a1
    have t8 : T 8 8 = s 50 := by rw [hW.1 8 hn.2.2.2.1]; exact hs.2.2.1
    generalize soonF rd s (plainZ cd rd) nT nR k (s 50) = D at p2 hr
    obtain ⟨z1, z2⟩ := loopG (fun n b (x : Int × Int × Int) => aR X (d + 4) m_X9_farthest n 39 [some (.ref 0), some (.int (zI p)), some (.int (zI x.1)), some (.int (zI x.2.1)), some (.int (zI x.2.2)), some (.int (zI k)), some (.int (zI b))] (1, 6) (mkS w (hI T') J)) (farG D k) (fun b x => (-1 ≤ x.1 ∧ x.1 < nT) ∧ (-1 ≤ x.2.1 ∧ x.2.1 < nT) ∧ -1 ≤ x.2.2 ∧ x.2.2 ≤ 999) nT 1 (fun n b x b1 b2 hx hn1 => by
      obtain ⟨n, rfl⟩ : ∃ n', n = n' + 1 := ⟨n - 1, by omega⟩
      refine ⟨n, by omega, ?_⟩
      have e := p2 b b1 (by omega)
      have hd := hr b
      by_cases r : ¬ b = k ∧ x.2.2 < D b
      · have er : farG D k b x = (k, b, D b) := if_pos r
        rw [er]
        show aR X (d + 4) m_X9_farthest (n + 1) 39 [some (.ref 0), some (.int (zI p)), some (.int (zI x.1)), some (.int (zI x.2.1)), some (.int (zI x.2.2)), some (.int (zI k)), some (.int (zI b))] (1, 6) (mkS w (hI T') J) = aR X (d + 4) m_X9_farthest n 39 [some (.ref 0), some (.int (zI p)), some (.int (zI k)), some (.int (zI b)), some (.int (zI ((D b)))), some (.int (zI k)), some (.int (zI ((b + 1))))] (1, 6) (mkS w (hI T') J)
        rw [e_X9_farthest_39]
        simp (disch := omega) only [hk, hu, hI_n, hI_un, z_nat, em_d, zl, z_add, z_sub, z_mul, z_lt, z_eq, gI_mk, gJ_mk, cI_some, cV_some, cJ_some, cI_x, cV_x, cJ_x, uS_self, uS_ne, if_pos, if_neg, b01, b01n, ite_not, if_true, if_false, hLL, t6', e]
      · have er : farG D k b x = x := if_neg r
        rw [er, e_X9_farthest_39]
        by_cases r1 : b = k
        · simp (disch := omega) only [hk, hu, hI_n, hI_un, z_nat, em_d, zl, z_add, z_sub, z_mul, z_lt, z_eq, gI_mk, gJ_mk, cI_some, cV_some, cJ_some, cI_x, cV_x, cJ_x, uS_self, uS_ne, if_pos, if_neg, b01, b01n, ite_not, if_true, if_false, hLL, t6', e]
        · have r2 : ¬ x.2.2 < D b := fun z => r ⟨r1, z⟩
          simp (disch := omega) only [hk, hu, hI_n, hI_un, z_nat, em_d, zl, z_add, z_sub, z_mul, z_lt, z_eq, gI_mk, gJ_mk, cI_some, cV_some, cJ_some, cI_x, cV_x, cJ_x, uS_self, uS_ne, if_pos, if_neg, b01, b01n, ite_not, if_true, if_false, hLL, t6', e]) (fun b x b1 b2 hx => farG_r hr ⟨k1, k2⟩ ⟨b1, b2⟩ hx) nT.toNat 0 a (by omega) (by omega) ha
    refine ⟨T', ⟨p3, z1⟩, fun n hn9 => ?_⟩
    obtain ⟨n, rfl⟩ : ∃ n', n = n' + 1 := ⟨n - 1, by omega⟩
    obtain ⟨n1, y1, y2⟩ := z2 n (by omega)
    obtain ⟨n1, rfl⟩ : ∃ n', n1 = n' + 1 := ⟨n1 - 1, by omega⟩
    refine ⟨n1, by omega, ?_⟩
    show aR X (d + 4) m_X9_farthest (n + 1) 21 [some (.ref 0), some (.int (zI p)), some (.int (zI a.1)), some (.int (zI a.2.1)), some (.int (zI a.2.2)), some (.int (zI k)), none] (1, 6) (mkS w (hI T) J) = aR X (d + 4) m_X9_farthest n1 21 [some (.ref 0), some (.int (zI p)), some (.int (zI ((fold (farG D k) nT.toNat 0 a).1))), some (.int (zI ((fold (farG D k) nT.toNat 0 a).2.1))), some (.int (zI ((fold (farG D k) nT.toNat 0 a).2.2))), some (.int (zI ((k + 1)))), none] (1, 6) (mkS w (hI T') J)
    rw [e_X9_farthest_21]
    simp (disch := omega) only [hk, hu, hI_n, hI_un, z_nat, em_d, zl, z_add, z_sub, z_mul, z_lt, z_eq, gI_mk, gJ_mk, cI_some, cV_some, cJ_some, cI_x, cV_x, cJ_x, uS_self, uS_ne, if_pos, if_neg, b01, b01n, ite_not, if_true, if_false, hLL, t6, t8]
    rw [p1]
    simp (disch := omega) only [hk, hu, hI_n, hI_un, z_nat, em_d, zl, z_add, z_sub, z_mul, z_lt, z_eq, gI_mk, gJ_mk, cI_some, cV_some, cJ_some, cI_x, cV_x, cJ_x, uS_self, uS_ne, if_pos, if_neg, b01, b01n, ite_not, if_true, if_false, hLL]
    refine y2.trans ?_
    show aR X (d + 4) m_X9_farthest (n1 + 1) 39 [some (.ref 0), some (.int (zI p)), some (.int (zI ((fold (farG D k) nT.toNat 0 a).1))), some (.int (zI ((fold (farG D k) nT.toNat 0 a).2.1))), some (.int (zI ((fold (farG D k) nT.toNat 0 a).2.2))), some (.int (zI k)), some (.int (zI nT))] (1, 6) (mkS w (hI T') J) = _
    rw [e_X9_farthest_39]
    simp (disch := omega) only [hk, hu, hI_n, hI_un, z_nat, em_d, zl, z_add, z_sub, z_mul, z_lt, z_eq, gI_mk, gJ_mk, cI_some, cV_some, cJ_some, cI_x, cV_x, cJ_x, uS_self, uS_ne, if_pos, if_neg, b01, b01n, ite_not, if_true, if_false, hLL, t6']) nT.toNat 0 (-1, -1, -1) S1 (by omega) (by omega) ⟨h2, ⟨by decide, by show -1 < nT; omega⟩, ⟨by decide, by show -1 < nT; omega⟩, by decide⟩
  obtain ⟨n1, k2, k3⟩ := q4 9999998 (by omega)
  obtain ⟨n1, rfl⟩ : ∃ n', n1 = n' + 1 := ⟨n1 - 1, by omega⟩
  have t6 : S2 (iL w.1) 6 = nT := by rw [q1.1 (iL w.1) (hn.2.1 0 (by omega))]; exact a1
  refine ⟨S2, ?_, q1.1⟩
  rw [go_X9_farthest, e_X9_farthest_0]
  simp (disch := omega) only [hk, hu, hI_n, hI_un, z_nat, em_d, zl, z_add, z_sub, z_mul, z_lt, z_eq, gI_mk, gJ_mk, cI_some, cV_some, cJ_some, cI_x, cV_x, cJ_x, uS_self, uS_ne, if_pos, if_neg, b01, b01n, ite_not, if_true, if_false, c_within, c_req1]
  rw [show 9999999 = 9999998 + 1 from rfl, e_X9_farthest_6, h1]
  simp (disch := omega) only [hk, hu, hI_n, hI_un, z_nat, em_d, zl, z_add, z_sub, z_mul, z_lt, z_eq, gI_mk, gJ_mk, cI_some, cV_some, cJ_some, cI_x, cV_x, cJ_x, uS_self, uS_ne, if_pos, if_neg, b01, b01n, ite_not, if_true, if_false]
  have k3 : aR X (d + 4) m_X9_farthest 9999998 21 [some (.ref 0), some (.int (zI p)), some (.int (zI ((-1)))), some (.int (zI ((-1)))), some (.int (zI ((-1)))), some (.int (zI 0)), none] (1, 6) (mkS w (hI S1) J) = aR X (d + 4) m_X9_farthest (n1 + 1) 21 [some (.ref 0), some (.int (zI p)), some (.int (zI ((farR (fun a => soonF rd s (plainZ cd rd) nT nR a (s 50)) nT).1))), some (.int (zI ((farR (fun a => soonF rd s (plainZ cd rd) nT nR a (s 50)) nT).2.1))), some (.int (zI ((farR (fun a => soonF rd s (plainZ cd rd) nT nR a (s 50)) nT).2.2))), some (.int (zI nT)), none] (1, 6) (mkS w (hI S2) J) := k3
  rw [k3, e_X9_farthest_21]
  have : p = 0 ∨ p = 1 ∨ p = 2 := by omega
  rcases this with rfl | rfl | rfl <;> simp (disch := omega) only [hk, hu, hI_n, hI_un, z_nat, em_d, zl, z_add, z_sub, z_mul, z_lt, z_eq, gI_mk, gJ_mk, cI_some, cV_some, cJ_some, cI_x, cV_x, cJ_x, uS_self, uS_ne, if_pos, if_neg, b01, b01n, ite_not, if_true, if_false, hLL, t6, rI_d]
theorem c_farthestB {p : Int} (hh : -2147483648 ≤ p ∧ p < 2147483648) (hn : ¬ (0 ≤ p ∧ p ≤ 2)) : am_call X aP (d + 5) 120 [.ref 0, .int (zI p)] (mkS w (hI S) J) = some (.inr 2, (mkS w (hI (xbS S)) J)) := by
  rw [go_X9_farthest, e_X9_farthest_0]
  simp (disch := omega) only [hk, hu, hI_n, hI_un, z_nat, em_d, zl, z_add, z_sub, z_mul, z_lt, z_eq, gI_mk, gJ_mk, cI_some, cV_some, cJ_some, cI_x, cV_x, cJ_x, uS_self, uS_ne, if_pos, if_neg, b01, b01n, ite_not, if_true, if_false, c_within, c_req0, rX_d]
/-- who waits longer never comes sooner -/
theorem lat_mono (hE : Ends nT nR rd) (hT : 0 ≤ nT) (hR : 0 ≤ nR) {pl : Int → Int} {t o h n : Int} (ht : 0 ≤ t ∧ t < nT) (ho : 0 ≤ o ∧ o < nT) (hn : n ≤ 200) {v v' : Int} (h0 : 0 ≤ v) (hvv : v ≤ v') (hp : latP (fun h => soonF rd s pl nT nR t h o) h n v') : latP (fun h => soonF rd s pl nT nR t h o) h n v := by
  have i1 := soon_SI (s := s) (pl := pl) (h := h + v) hE hT hR ht
  have i2 := soon_SI (s := s) (pl := pl) (h := h + v') hE hT hR ht
  have hp1 : ¬ soonF rd s pl nT nR t (h + v') o = -1 := hp.1
  have hp2 : soonF rd s pl nT nR t (h + v') o + v' ≤ n := hp.2
  have r2 := i2.1 o
  obtain ⟨g1, g2⟩ := soon_fifo (by omega) i1 i2 hE (soonF rd s pl nT nR t (h + v') o).toNat o ho.1 ho.2 (by omega) (by omega)
  exact ⟨g1, by show soonF rd s pl nT nR t (h + v) o + v ≤ n; omega⟩
theorem l_latest (hL : CL S (iL w.1) nT nR nC rd) (hE : Ends nT nR rd) (hs : CS nR nC S 8 s) (hv : Sc nR nC s) {t o h n : Int} (ht : 0 ≤ t ∧ t < nT) (ho : 0 ≤ o ∧ o < nT) (hh : 0 ≤ h ∧ h ≤ 5600) (hn : 0 ≤ n ∧ n ≤ 200) : ∀ (j : Nat) (i b lo hi : Int) (T : Hp), i + j = 201 → 0 ≤ i → Wy (iW w.2.1) nR (plainZ cd rd) S T → hi ≤ n → 0 ≤ lo → lo ≤ hi + 1 → hi + 1 - lo ≤ j → ((b = -1 ∧ lo = 0) ∨ (b = lo - 1 ∧ 0 ≤ b ∧ latP (fun h => soonF rd s (plainZ cd rd) nT nR t h o) h n b)) → (∀ v, hi < v → v ≤ n → ¬ latP (fun h => soonF rd s (plainZ cd rd) nT nR t h o) h n v) → ∃ S', (∀ x, 2 * j + 1 ≤ x → aR X (d + 4) m_X9_latest x 36 [some (.ref 0), some (.int (zI t)), some (.int (zI o)), some (.int (zI h)), some (.int (zI n)), some (.int (zI b)), some (.int (zI lo)), some (.int (zI hi)), some (.int (zI i)), none, none] (3, 18) (mkS w (hI T) J) = some (.inl (some (.int (zI (latD (fun h => soonF rd s (plainZ cd rd) nT nR t h o) h n n.toNat)))), (mkS w (hI S') J))) ∧ Wy (iW w.2.1) nR (plainZ cd rd) S S'
  | 0, i, b, lo, hi, T, hij, hi0, hW, g1, g2, g3, g4, g5, g6 => by
    have e : latD (fun h => soonF rd s (plainZ cd rd) nT nR t h o) h n n.toNat = b := by
      refine latD_u n.toNat ?_ (fun v v1 v2 v3 => g6 v (by omega) (by omega))
      rcases g5 with g5 | g5
      · exact Or.inl g5.1
      · exact Or.inr ⟨g5.2.1, by omega, g5.2.2⟩
    refine ⟨T, fun x hx => ?_, hW⟩
    obtain ⟨x, rfl⟩ : ∃ x', x = x' + 1 := ⟨x - 1, by omega⟩
    rw [e_X9_latest_36, e]
    simp (disch := omega) only [hk, hu, hI_n, hI_un, z_nat, em_d, zl, z_add, z_sub, z_mul, z_lt, z_eq, gI_mk, gJ_mk, cI_some, cV_some, cJ_some, cI_x, cV_x, cJ_x, uS_self, uS_ne, if_pos, if_neg, b01, b01n, ite_not, if_true, if_false, hLL, rI_d]
  | j + 1, i, b, lo, hi, T, hij, hi0, hW, g1, g2, g3, g4, g5, g6 => by
    obtain ⟨a1, -, -, -, a5, a6, a7, -⟩ := id hL
    by_cases q : hi < lo
    · have e : latD (fun h => soonF rd s (plainZ cd rd) nT nR t h o) h n n.toNat = b := by
        refine latD_u n.toNat ?_ (fun v v1 v2 v3 => g6 v (by omega) (by omega))
        rcases g5 with g5 | g5
        · exact Or.inl g5.1
        · exact Or.inr ⟨g5.2.1, by omega, g5.2.2⟩
      refine ⟨T, fun x hx => ?_, hW⟩
      obtain ⟨x, rfl⟩ : ∃ x', x = x' + 1 := ⟨x - 1, by omega⟩
      rw [e_X9_latest_36, e]
      simp (disch := omega) only [hk, hu, hI_n, hI_un, z_nat, em_d, zl, z_add, z_sub, z_mul, z_lt, z_eq, gI_mk, gJ_mk, cI_some, cV_some, cJ_some, cI_x, cV_x, cJ_x, uS_self, uS_ne, if_pos, if_neg, b01, b01n, ite_not, if_true, if_false, hLL, rI_d]
    · obtain ⟨m, hm⟩ : ∃ m, m = (lo + hi) / 2 := ⟨_, rfl⟩
      have hmr : lo ≤ m ∧ m ≤ hi := by omega
      obtain ⟨T', p1, p2, p3, -⟩ := c_sear (X := X) (d := d) (w := w) (J := J) hL hE hs hv hW (t := t) (h := h + m) ht (by omega)
      have e := p2 o ho.1 (by omega)
      have hr := soon_r cd (s := s) (h := h + m) hE a5 a7 ht o
      by_cases z : latP (fun h => soonF rd s (plainZ cd rd) nT nR t h o) h n m
      · obtain ⟨S', k1, k2⟩ := l_latest hL hE hs hv ht ho hh hn j (i + 1) m (m + 1) hi T' (by omega) (by omega) p3 g1 (by omega) (by omega) (by omega) (Or.inr ⟨by omega, by omega, z⟩) g6
        have z1 : ¬ soonF rd s (plainZ cd rd) nT nR t (h + m) o = -1 := z.1
        have z2 : ¬ n < m + soonF rd s (plainZ cd rd) nT nR t (h + m) o := by
          have : soonF rd s (plainZ cd rd) nT nR t (h + m) o + m ≤ n := z.2
          omega
        refine ⟨S', fun x hx => ?_, k2⟩
        obtain ⟨x, rfl⟩ : ∃ x', x = x' + 1 := ⟨x - 1, by omega⟩
        generalize soonF rd s (plainZ cd rd) nT nR t (h + m) o = v at e hr z1 z2
        rw [e_X9_latest_36]
        simp (disch := omega) only [hk, hu, hI_n, hI_un, z_nat, em_d, zl, z_add, z_sub, z_mul, z_lt, z_eq, gI_mk, gJ_mk, cI_some, cV_some, cJ_some, cI_x, cV_x, cJ_x, uS_self, uS_ne, if_pos, if_neg, b01, b01n, ite_not, if_true, if_false, hLL, z_div, ← hm]
        rw [p1]
        simp (disch := omega) only [hk, hu, hI_n, hI_un, z_nat, em_d, zl, z_add, z_sub, z_mul, z_lt, z_eq, gI_mk, gJ_mk, cI_some, cV_some, cJ_some, cI_x, cV_x, cJ_x, uS_self, uS_ne, if_pos, if_neg, b01, b01n, ite_not, if_true, if_false, hLL, e]
        exact k1 x (by omega)
      · obtain ⟨S', k1, k2⟩ := l_latest hL hE hs hv ht ho hh hn j (i + 1) b lo (m - 1) T' (by omega) (by omega) p3 (by omega) g2 (by omega) (by omega) g5 (fun v v1 v2 v3 => z (lat_mono hE a5 a7 ht ho hn.2 (by omega) (by omega) v3))
        refine ⟨S', fun x hx => ?_, k2⟩
        obtain ⟨x, rfl⟩ : ∃ x', x = x' + 2 := ⟨x - 2, by omega⟩
        have z' : ¬ (¬ soonF rd s (plainZ cd rd) nT nR t (h + m) o = -1 ∧ soonF rd s (plainZ cd rd) nT nR t (h + m) o + m ≤ n) := z
        generalize soonF rd s (plainZ cd rd) nT nR t (h + m) o = v at e hr z'
        rw [e_X9_latest_36]
        simp (disch := omega) only [hk, hu, hI_n, hI_un, z_nat, em_d, zl, z_add, z_sub, z_mul, z_lt, z_eq, gI_mk, gJ_mk, cI_some, cV_some, cJ_some, cI_x, cV_x, cJ_x, uS_self, uS_ne, if_pos, if_neg, b01, b01n, ite_not, if_true, if_false, hLL, z_div, ← hm]
        rw [p1]
        by_cases y : v = -1
        · simp (disch := omega) only [hk, hu, hI_n, hI_un, z_nat, em_d, zl, z_add, z_sub, z_mul, z_lt, z_eq, gI_mk, gJ_mk, cI_some, cV_some, cJ_some, cI_x, cV_x, cJ_x, uS_self, uS_ne, if_pos, if_neg, b01, b01n, ite_not, if_true, if_false, hLL, e, y]
          rw [e_X9_latest_80]
          simp (disch := omega) only [hk, hu, hI_n, hI_un, z_nat, em_d, zl, z_add, z_sub, z_mul, z_lt, z_eq, gI_mk, gJ_mk, cI_some, cV_some, cJ_some, cI_x, cV_x, cJ_x, uS_self, uS_ne, if_pos, if_neg, b01, b01n, ite_not, if_true, if_false, hLL]
          exact k1 x (by omega)
        · simp (disch := omega) only [hk, hu, hI_n, hI_un, z_nat, em_d, zl, z_add, z_sub, z_mul, z_lt, z_eq, gI_mk, gJ_mk, cI_some, cV_some, cJ_some, cI_x, cV_x, cJ_x, uS_self, uS_ne, if_pos, if_neg, b01, b01n, ite_not, if_true, if_false, hLL, e]
          rw [e_X9_latest_80]
          simp (disch := omega) only [hk, hu, hI_n, hI_un, z_nat, em_d, zl, z_add, z_sub, z_mul, z_lt, z_eq, gI_mk, gJ_mk, cI_some, cV_some, cJ_some, cI_x, cV_x, cJ_x, uS_self, uS_ne, if_pos, if_neg, b01, b01n, ite_not, if_true, if_false, hLL]
          exact k1 x (by omega)
theorem c_latest (hL : CL S (iL w.1) nT nR nC rd) (hE : Ends nT nR rd) (hs : CS nR nC S 8 s) (hv : Sc nR nC s) (hc : CW S (iW w.2.1) cd) {t o h n : Int} (ht : 0 ≤ t ∧ t < nT) (ho : 0 ≤ o ∧ o < nT) (hh : 0 ≤ h ∧ h ≤ 5600) (hn : 0 ≤ n ∧ n ≤ 200) : ∃ S', am_call X aP (d + 5) 118 [.ref 0, .int (zI t), .int (zI o), .int (zI h), .int (zI n)] (mkS w (hI S) J) = some (.inl (some (.int (zI (latD (fun h => soonF rd s (plainZ cd rd) nT nR t h o) h n n.toNat)))), (mkS w (hI S') J)) ∧ Fr (scD (iW w.2.1)) S S' := by
  obtain ⟨S1, h1, h2⟩ := c_meas (X := X) (d := d) (w := w) (J := J) hL hc
  obtain ⟨S2, k1, k2⟩ := l_latest (X := X) (d := d) (w := w) (J := J) (cd := cd) hL hE hs hv ht ho hh hn 201 0 (-1) 0 n S1 (by omega) (by omega) h2 (by omega) (by omega) (by omega) (by omega) (Or.inl ⟨rfl, rfl⟩) (fun v v1 v2 => by omega)
  refine ⟨S2, ?_, k2.1⟩
  rw [go_X9_latest, e_X9_latest_0]
  simp (disch := omega) only [hk, hu, hI_n, hI_un, z_nat, em_d, zl, z_add, z_sub, z_mul, z_lt, z_eq, gI_mk, gJ_mk, cI_some, cV_some, cJ_some, cI_x, cV_x, cJ_x, uS_self, uS_ne, if_pos, if_neg, b01, b01n, ite_not, if_true, if_false, c_town1 hL ht]
  rw [show 9999999 = 9999998 + 1 from rfl, e_X9_latest_3]
  simp (disch := omega) only [hk, hu, hI_n, hI_un, z_nat, em_d, zl, z_add, z_sub, z_mul, z_lt, z_eq, gI_mk, gJ_mk, cI_some, cV_some, cJ_some, cI_x, cV_x, cJ_x, uS_self, uS_ne, if_pos, if_neg, b01, b01n, ite_not, if_true, if_false, c_town1 hL ho]
  rw [show 9999998 = 9999997 + 1 from rfl, e_X9_latest_6]
  simp (disch := omega) only [hk, hu, hI_n, hI_un, z_nat, em_d, zl, z_add, z_sub, z_mul, z_lt, z_eq, gI_mk, gJ_mk, cI_some, cV_some, cJ_some, cI_x, cV_x, cJ_x, uS_self, uS_ne, if_pos, if_neg, b01, b01n, ite_not, if_true, if_false, c_within, c_req1]
  rw [show 9999997 = 9999996 + 1 from rfl, e_X9_latest_21, h1]
  simp (disch := omega) only [hk, hu, hI_n, hI_un, z_nat, em_d, zl, z_add, z_sub, z_mul, z_lt, z_eq, gI_mk, gJ_mk, cI_some, cV_some, cJ_some, cI_x, cV_x, cJ_x, uS_self, uS_ne, if_pos, if_neg, b01, b01n, ite_not, if_true, if_false, hLL]
  exact k1 9999996 (by omega)
theorem c_latestN (hL : CL S (iL w.1) nT nR nC rd) {t o h n : Int} (hr : -2147483648 ≤ t ∧ t < 2147483648) (hr2 : -2147483648 ≤ o ∧ o < 2147483648) (hn : ¬ ((0 ≤ t ∧ t < nT) ∧ 0 ≤ o ∧ o < nT)) : am_call X aP (d + 5) 118 [.ref 0, .int (zI t), .int (zI o), .int (zI h), .int (zI n)] (mkS w (hI S) J) = some (.inr 1, (mkS w (hI (xnS S)) J)) := by
  rw [go_X9_latest, e_X9_latest_0]
  by_cases q : 0 ≤ t ∧ t < nT
  · simp (disch := omega) only [hk, hu, hI_n, hI_un, z_nat, em_d, zl, z_add, z_sub, z_mul, z_lt, z_eq, gI_mk, gJ_mk, cI_some, cV_some, cJ_some, cI_x, cV_x, cJ_x, uS_self, uS_ne, if_pos, if_neg, b01, b01n, ite_not, if_true, if_false, c_town1 hL q]
    rw [show 9999999 = 9999998 + 1 from rfl, e_X9_latest_3]
    simp (disch := omega) only [hk, hu, hI_n, hI_un, z_nat, em_d, zl, z_add, z_sub, z_mul, z_lt, z_eq, gI_mk, gJ_mk, cI_some, cV_some, cJ_some, cI_x, cV_x, cJ_x, uS_self, uS_ne, if_pos, if_neg, b01, b01n, ite_not, if_true, if_false, c_town0 hL hr2 (fun z => hn ⟨q, z⟩), rX_d]
  · simp (disch := omega) only [hk, hu, hI_n, hI_un, z_nat, em_d, zl, z_add, z_sub, z_mul, z_lt, z_eq, gI_mk, gJ_mk, cI_some, cV_some, cJ_some, cI_x, cV_x, cJ_x, uS_self, uS_ne, if_pos, if_neg, b01, b01n, ite_not, if_true, if_false, c_town0 hL hr q, rX_d]
theorem c_latestB (hL : CL S (iL w.1) nT nR nC rd) {t o h n : Int} (ht : 0 ≤ t ∧ t < nT) (ho : 0 ≤ o ∧ o < nT) (hh : -2147483648 ≤ h ∧ h < 2147483648) (hh2 : -2147483648 ≤ n ∧ n < 2147483648) (hn : ¬ ((0 ≤ h ∧ h ≤ 5600) ∧ 0 ≤ n ∧ n ≤ 200)) : am_call X aP (d + 5) 118 [.ref 0, .int (zI t), .int (zI o), .int (zI h), .int (zI n)] (mkS w (hI S) J) = some (.inr 2, (mkS w (hI (xbS S)) J)) := by
  rw [go_X9_latest, e_X9_latest_0]
  simp (disch := omega) only [hk, hu, hI_n, hI_un, z_nat, em_d, zl, z_add, z_sub, z_mul, z_lt, z_eq, gI_mk, gJ_mk, cI_some, cV_some, cJ_some, cI_x, cV_x, cJ_x, uS_self, uS_ne, if_pos, if_neg, b01, b01n, ite_not, if_true, if_false, c_town1 hL ht]
  rw [show 9999999 = 9999998 + 1 from rfl, e_X9_latest_3]
  simp (disch := omega) only [hk, hu, hI_n, hI_un, z_nat, em_d, zl, z_add, z_sub, z_mul, z_lt, z_eq, gI_mk, gJ_mk, cI_some, cV_some, cJ_some, cI_x, cV_x, cJ_x, uS_self, uS_ne, if_pos, if_neg, b01, b01n, ite_not, if_true, if_false, c_town1 hL ho]
  rw [show 9999998 = 9999997 + 1 from rfl, e_X9_latest_6]
  by_cases q : 0 ≤ h ∧ h ≤ 5600
  · simp (disch := omega) only [hk, hu, hI_n, hI_un, z_nat, em_d, zl, z_add, z_sub, z_mul, z_lt, z_eq, gI_mk, gJ_mk, cI_some, cV_some, cJ_some, cI_x, cV_x, cJ_x, uS_self, uS_ne, if_pos, if_neg, b01, b01n, ite_not, if_true, if_false, c_within, c_req0, rX_d]
  · simp (disch := omega) only [hk, hu, hI_n, hI_un, z_nat, em_d, zl, z_add, z_sub, z_mul, z_lt, z_eq, gI_mk, gJ_mk, cI_some, cV_some, cJ_some, cI_x, cV_x, cJ_x, uS_self, uS_ne, if_pos, if_neg, b01, b01n, ite_not, if_true, if_false, c_within, c_req0, rX_d]
end CPD
