/-! THE INN: two carters, to go or to stay -/
def shF (v u m h : Int) : Int := if m = 1 then 0 else if h = 1 then v else v - u
abbrev rstI (v u i j : Int) : Prop := shF v u (1 - i) j ≤ shF v u i j ∧ shF v u (1 - j) i ≤ shF v u j i
def stI (v u i j : Int) (a : Int × Int × Int) : Int × Int × Int := if rstI v u i j then (if a.1 = 0 then (a.1 + 1, 10 * i + j, shF v u i j + shF v u j i) else (a.1 + 1, a.2.1, a.2.2)) else a
def innR (v u : Int) : Int × Int × Int := stI v u 1 1 (stI v u 1 0 (stI v u 0 1 (stI v u 0 0 (0, -1, 0))))
theorem shF_r {v u m h : Int} (hv : 0 ≤ v ∧ v ≤ 99) (hu1 : 0 ≤ u ∧ u ≤ 99) : -99 ≤ shF v u m h ∧ shF v u m h ≤ 99 := by
  unfold shF
  split
  · omega
  · split <;> omega
/-- what holds of the three numbers -/
def okI (v u : Int) (a : Int × Int × Int) : Prop := (a.1 = 0 ∧ a.2.1 = -1 ∧ a.2.2 = 0) ∨ (1 ≤ a.1 ∧ ∃ i j, (0 ≤ i ∧ i ≤ 1) ∧ (0 ≤ j ∧ j ≤ 1) ∧ a.2.1 = 10 * i + j ∧ a.2.2 = shF v u i j + shF v u j i)
theorem stI_ok {v u i j : Int} {a : Int × Int × Int} (hi : 0 ≤ i ∧ i ≤ 1) (hj : 0 ≤ j ∧ j ≤ 1) (h : okI v u a) : okI v u (stI v u i j a) ∧ (stI v u i j a).1 ≤ a.1 + 1 := by
  unfold stI
  by_cases q : rstI v u i j
  · rw [if_pos q]
    by_cases z : a.1 = 0
    · rw [if_pos z]
      exact ⟨Or.inr ⟨by show 1 ≤ a.1 + 1; omega, i, j, hi, hj, rfl, rfl⟩, Int.le_refl _⟩
    · rw [if_neg z]
      rcases h with h | ⟨h1, h2⟩
      · exact absurd h.1 z
      · exact ⟨Or.inr ⟨by show 1 ≤ a.1 + 1; omega, h2⟩, Int.le_refl _⟩
  · rw [if_neg q]
    exact ⟨h, by omega⟩
theorem okI_r {v u : Int} {a : Int × Int × Int} (hv : 0 ≤ v ∧ v ≤ 99) (hu1 : 0 ≤ u ∧ u ≤ 99) (h : okI v u a) : 0 ≤ a.1 ∧ -1 ≤ a.2.1 ∧ a.2.1 ≤ 11 ∧ -198 ≤ a.2.2 ∧ a.2.2 ≤ 198 := by
  rcases h with h | ⟨h1, i, j, hi, hj, e1, e2⟩
  · omega
  · have r1 := shF_r (m := i) (h := j) hv hu1
    have r2 := shF_r (m := j) (h := i) hv hu1
    omega
section INN
variable {X : Nat × (Nat → Int32)} {d : Nat} {w : Bool × Bool × Bool} {S : Hp} {J : Nat → Nat → Int64}
theorem c_share {v u m h : Int} (hm : 0 ≤ m ∧ m ≤ 1) (hh : 0 ≤ h ∧ h ≤ 1) : am_call X aP (d + 1) 128 [.int (zI v), .int (zI u), .int (zI m), .int (zI h)] (mkS w (hI S) J) = some (.inl (some (.int (zI (shF v u m h)))), (mkS w (hI S) J)) := by
  rw [go_X9_innShare, e_X9_innShare_0]
  unfold shF
  by_cases q : m = 1
  · simp (disch := omega) only [hk, hu, hI_n, hI_un, z_nat, em_d, zl, z_add, z_sub, z_mul, z_lt, z_eq, gI_mk, gJ_mk, cI_some, cV_some, cJ_some, cI_x, cV_x, cJ_x, uS_self, uS_ne, if_pos, if_neg, b01, b01n, ite_not, if_true, if_false, q, rI_d]
  · by_cases q2 : h = 1
    · simp (disch := omega) only [hk, hu, hI_n, hI_un, z_nat, em_d, zl, z_add, z_sub, z_mul, z_lt, z_eq, gI_mk, gJ_mk, cI_some, cV_some, cJ_some, cI_x, cV_x, cJ_x, uS_self, uS_ne, if_pos, if_neg, b01, b01n, ite_not, if_true, if_false, q2, rI_d]
    · simp (disch := omega) only [hk, hu, hI_n, hI_un, z_nat, em_d, zl, z_add, z_sub, z_mul, z_lt, z_eq, gI_mk, gJ_mk, cI_some, cV_some, cJ_some, cI_x, cV_x, cJ_x, uS_self, uS_ne, if_pos, if_neg, b01, b01n, ite_not, if_true, if_false, rI_d]
theorem m_hasBy {v u m h : Int} (hm : 0 ≤ m ∧ m ≤ 1) (hh : 0 ≤ h ∧ h ≤ 1) : am_call X aP (d + 1) 249 [.int (zI m), .int (zI h), .int (zI v), .int (zI u)] (mkS w (hI S) J) = some (.inl (some (.int (zI (shF v u m h)))), (mkS w (hI S) J)) := by
  rw [go_X10_hasBy, e_X10_hasBy_0]
  unfold shF
  have h1 : m = 0 ∨ m = 1 := by omega
  have h2 : h = 0 ∨ h = 1 := by omega
  rcases h1 with rfl | rfl <;> rcases h2 with rfl | rfl <;> simp (disch := omega) only [hk, hu, hI_n, hI_un, z_nat, em_d, zl, z_add, z_sub, z_mul, z_lt, z_eq, gI_mk, gJ_mk, cI_some, cV_some, cJ_some, cI_x, cV_x, cJ_x, uS_self, uS_ne, if_pos, if_neg, b01, b01n, ite_not, if_true, if_false, rI_d]
theorem l_inn {v u p i j : Int} {a : Int × Int × Int} (hv : 0 ≤ v ∧ v ≤ 99) (hu1 : 0 ≤ u ∧ u ≤ 99) (hi : 0 ≤ i ∧ i ≤ 1) (hj : 0 ≤ j ∧ j ≤ 1) (ha : okI v u a) (ha2 : a.1 ≤ 10) (n : Nat) : ∃ n', n ≤ n' ∧ aR X (d + 1) m_X9_inn (n + 3) 33 [none, some (.int (zI v)), some (.int (zI u)), some (.int (zI p)), some (.int (zI a.1)), some (.int (zI a.2.1)), some (.int (zI a.2.2)), some (.int (zI i)), some (.int (zI j)), none] (1, 6) (mkS w (hI S) J) = aR X (d + 1) m_X9_inn n' 33 [none, some (.int (zI v)), some (.int (zI u)), some (.int (zI p)), some (.int (zI ((stI v u i j a).1))), some (.int (zI ((stI v u i j a).2.1))), some (.int (zI ((stI v u i j a).2.2))), some (.int (zI i)), some (.int (zI ((j + 1)))), none] (1, 6) (mkS w (hI S) J) := by
  have r1 := shF_r (m := i) (h := j) hv hu1
  have r2 := shF_r (m := j) (h := i) hv hu1
  have r3 := shF_r (m := 1 - i) (h := j) hv hu1
  have r4 := shF_r (m := 1 - j) (h := i) hv hu1
  obtain ⟨z1, z2, z3, z4, z5⟩ := okI_r hv hu1 ha
  by_cases q : rstI v u i j
  · obtain ⟨q1, q2⟩ := id q
    refine ⟨n + 1, by omega, ?_⟩
    by_cases z : a.1 = 0
    · have e : stI v u i j a = (a.1 + 1, 10 * i + j, shF v u i j + shF v u j i) := by unfold stI; rw [if_pos q, if_pos z]
      rw [e, e_X9_inn_33]
      simp (disch := omega) only [hk, hu, hI_n, hI_un, z_nat, em_d, zl, z_add, z_sub, z_mul, z_lt, z_eq, gI_mk, gJ_mk, cI_some, cV_some, cJ_some, cI_x, cV_x, cJ_x, uS_self, uS_ne, if_pos, if_neg, b01, b01n, ite_not, if_true, if_false, c_share]
      rw [e_X9_inn_88]
      simp (disch := omega) only [hk, hu, hI_n, hI_un, z_nat, em_d, zl, z_add, z_sub, z_mul, z_lt, z_eq, gI_mk, gJ_mk, cI_some, cV_some, cJ_some, cI_x, cV_x, cJ_x, uS_self, uS_ne, if_pos, if_neg, b01, b01n, ite_not, if_true, if_false]
    · have e : stI v u i j a = (a.1 + 1, a.2.1, a.2.2) := by unfold stI; rw [if_pos q, if_neg z]
      rw [e, e_X9_inn_33]
      simp (disch := omega) only [hk, hu, hI_n, hI_un, z_nat, em_d, zl, z_add, z_sub, z_mul, z_lt, z_eq, gI_mk, gJ_mk, cI_some, cV_some, cJ_some, cI_x, cV_x, cJ_x, uS_self, uS_ne, if_pos, if_neg, b01, b01n, ite_not, if_true, if_false, c_share]
      rw [e_X9_inn_88]
      simp (disch := omega) only [hk, hu, hI_n, hI_un, z_nat, em_d, zl, z_add, z_sub, z_mul, z_lt, z_eq, gI_mk, gJ_mk, cI_some, cV_some, cJ_some, cI_x, cV_x, cJ_x, uS_self, uS_ne, if_pos, if_neg, b01, b01n, ite_not, if_true, if_false]
  · have e : stI v u i j a = a := if_neg q
    refine ⟨n, by omega, ?_⟩
    rw [e, e_X9_inn_33]
    by_cases q1 : shF v u (1 - i) j ≤ shF v u i j
    · have q2 : ¬ shF v u (1 - j) i ≤ shF v u j i := fun y => q ⟨q1, y⟩
      simp (disch := omega) only [hk, hu, hI_n, hI_un, z_nat, em_d, zl, z_add, z_sub, z_mul, z_lt, z_eq, gI_mk, gJ_mk, cI_some, cV_some, cJ_some, cI_x, cV_x, cJ_x, uS_self, uS_ne, if_pos, if_neg, b01, b01n, ite_not, if_true, if_false, c_share]
      rw [e_X9_inn_64]
      simp (disch := omega) only [hk, hu, hI_n, hI_un, z_nat, em_d, zl, z_add, z_sub, z_mul, z_lt, z_eq, gI_mk, gJ_mk, cI_some, cV_some, cJ_some, cI_x, cV_x, cJ_x, uS_self, uS_ne, if_pos, if_neg, b01, b01n, ite_not, if_true, if_false]
      rw [e_X9_inn_88]
      simp (disch := omega) only [hk, hu, hI_n, hI_un, z_nat, em_d, zl, z_add, z_sub, z_mul, z_lt, z_eq, gI_mk, gJ_mk, cI_some, cV_some, cJ_some, cI_x, cV_x, cJ_x, uS_self, uS_ne, if_pos, if_neg, b01, b01n, ite_not, if_true, if_false, Int.add_zero]
    · simp (disch := omega) only [hk, hu, hI_n, hI_un, z_nat, em_d, zl, z_add, z_sub, z_mul, z_lt, z_eq, gI_mk, gJ_mk, cI_some, cV_some, cJ_some, cI_x, cV_x, cJ_x, uS_self, uS_ne, if_pos, if_neg, b01, b01n, ite_not, if_true, if_false, c_share]
      rw [e_X9_inn_64]
      simp (disch := omega) only [hk, hu, hI_n, hI_un, z_nat, em_d, zl, z_add, z_sub, z_mul, z_lt, z_eq, gI_mk, gJ_mk, cI_some, cV_some, cJ_some, cI_x, cV_x, cJ_x, uS_self, uS_ne, if_pos, if_neg, b01, b01n, ite_not, if_true, if_false]
      rw [e_X9_inn_88]
      simp (disch := omega) only [hk, hu, hI_n, hI_un, z_nat, em_d, zl, z_add, z_sub, z_mul, z_lt, z_eq, gI_mk, gJ_mk, cI_some, cV_some, cJ_some, cI_x, cV_x, cJ_x, uS_self, uS_ne, if_pos, if_neg, b01, b01n, ite_not, if_true, if_false, Int.add_zero]
/-- one round of the outer loop -/
theorem l_inn2 {v u p i : Int} {a : Int × Int × Int} (hv : 0 ≤ v ∧ v ≤ 99) (hu1 : 0 ≤ u ∧ u ≤ 99) (hi : 0 ≤ i ∧ i ≤ 1) (ha : okI v u a) (ha2 : a.1 ≤ 5) (n : Nat) : ∃ n', n ≤ n' ∧ aR X (d + 1) m_X9_inn (n + 8) 28 [none, some (.int (zI v)), some (.int (zI u)), some (.int (zI p)), some (.int (zI a.1)), some (.int (zI a.2.1)), some (.int (zI a.2.2)), some (.int (zI i)), none, none] (1, 6) (mkS w (hI S) J) = aR X (d + 1) m_X9_inn n' 28 [none, some (.int (zI v)), some (.int (zI u)), some (.int (zI p)), some (.int (zI ((stI v u i 1 (stI v u i 0 a)).1))), some (.int (zI ((stI v u i 1 (stI v u i 0 a)).2.1))), some (.int (zI ((stI v u i 1 (stI v u i 0 a)).2.2))), some (.int (zI ((i + 1)))), none, none] (1, 6) (mkS w (hI S) J) := by
  obtain ⟨n1, h1, h2⟩ := l_inn (X := X) (d := d) (w := w) (S := S) (J := J) (p := p) (i := i) (j := 0) hv hu1 hi (by decide) ha (by omega) (n + 4)
  obtain ⟨k1, k2⟩ := stI_ok (i := i) (j := 0) hi (by decide) ha
  generalize stI v u i 0 a = b at *
  obtain ⟨n1, rfl⟩ : ∃ m, n1 = m + 3 := ⟨n1 - 3, by omega⟩
  obtain ⟨n2, h3, h4⟩ := l_inn (X := X) (d := d) (w := w) (S := S) (J := J) (p := p) (i := i) (j := 1) hv hu1 hi (by decide) k1 (by omega) n1
  obtain ⟨k3, k4⟩ := stI_ok (i := i) (j := 1) hi (by decide) k1
  generalize stI v u i 1 b = c at *
  obtain ⟨n2, rfl⟩ : ∃ m, n2 = m + 1 := ⟨n2 - 1, by omega⟩
  refine ⟨n2, by omega, ?_⟩
  obtain ⟨z1, z2, z3, z4, z5⟩ := okI_r hv hu1 ha
  obtain ⟨y1, y2, y3, y4, y5⟩ := okI_r hv hu1 k3
  rw [e_X9_inn_28]
  simp (disch := omega) only [hk, hu, hI_n, hI_un, z_nat, em_d, zl, z_add, z_sub, z_mul, z_lt, z_eq, gI_mk, gJ_mk, cI_some, cV_some, cJ_some, cI_x, cV_x, cJ_x, uS_self, uS_ne, if_pos, if_neg, b01, b01n, ite_not, if_true, if_false]
  refine h2.trans (h4.trans ?_)
  show aR X (d + 1) m_X9_inn (n2 + 1) 33 [none, some (.int (zI v)), some (.int (zI u)), some (.int (zI p)), some (.int (zI c.1)), some (.int (zI c.2.1)), some (.int (zI c.2.2)), some (.int (zI i)), some (.int (zI 2)), none] (1, 6) (mkS w (hI S) J) = _
  rw [e_X9_inn_33]
  simp (disch := omega) only [hk, hu, hI_n, hI_un, z_nat, em_d, zl, z_add, z_sub, z_mul, z_lt, z_eq, gI_mk, gJ_mk, cI_some, cV_some, cJ_some, cI_x, cV_x, cJ_x, uS_self, uS_ne, if_pos, if_neg, b01, b01n, ite_not, if_true, if_false]
theorem c_inn {v u p : Int} (hv : 0 ≤ v ∧ v ≤ 99) (hu1 : 0 ≤ u ∧ u ≤ 99) (hp : 0 ≤ p ∧ p ≤ 2) : am_call X aP (d + 2) 127 [.ref 0, .int (zI v), .int (zI u), .int (zI p)] (mkS w (hI S) J) = some (.inl (some (.int (zI (pick3 p (innR v u))))), (mkS w (hI S) J)) := by
  have k0 : okI v u (0, -1, 0) := Or.inl ⟨rfl, rfl, rfl⟩
  obtain ⟨n1, h1, h2⟩ := l_inn2 (X := X) (d := d) (w := w) (S := S) (J := J) (p := p) (i := 0) (a := (0, -1, 0)) hv hu1 (by decide) k0 (by decide) 9999990
  obtain ⟨k1, k2⟩ := stI_ok (i := 0) (j := 0) (by decide) (by decide) k0
  obtain ⟨k3, k4⟩ := stI_ok (i := 0) (j := 1) (by decide) (by decide) k1
  have k2 : (stI v u 0 0 (0, -1, 0)).1 ≤ 1 := k2
  obtain ⟨n1, rfl⟩ : ∃ m, n1 = m + 8 := ⟨n1 - 8, by omega⟩
  obtain ⟨n2, h3, h4⟩ := l_inn2 (X := X) (d := d) (w := w) (S := S) (J := J) (p := p) (i := 1) hv hu1 (by decide) k3 (by omega) n1
  obtain ⟨k5, k6⟩ := stI_ok (i := 1) (j := 0) (by decide) (by decide) k3
  obtain ⟨k7, k8⟩ := stI_ok (i := 1) (j := 1) (by decide) (by decide) k5
  obtain ⟨n2, rfl⟩ : ∃ m, n2 = m + 1 := ⟨n2 - 1, by omega⟩
  rw [go_X9_inn, e_X9_inn_0]
  simp (disch := omega) only [hk, hu, hI_n, hI_un, z_nat, em_d, zl, z_add, z_sub, z_mul, z_lt, z_eq, gI_mk, gJ_mk, cI_some, cV_some, cJ_some, cI_x, cV_x, cJ_x, uS_self, uS_ne, if_pos, if_neg, b01, b01n, ite_not, if_true, if_false, c_within, c_req1]
  rw [show 9999999 = 9999998 + 1 from rfl, e_X9_inn_20]
  simp (disch := omega) only [hk, hu, hI_n, hI_un, z_nat, em_d, zl, z_add, z_sub, z_mul, z_lt, z_eq, gI_mk, gJ_mk, cI_some, cV_some, cJ_some, cI_x, cV_x, cJ_x, uS_self, uS_ne, if_pos, if_neg, b01, b01n, ite_not, if_true, if_false]
  refine (show _ = _ from h2).trans (h4.trans ?_)
  unfold innR
  generalize stI v u 1 1 (stI v u 1 0 (stI v u 0 1 (stI v u 0 0 (0, -1, 0)))) = c at *
  show aR X (d + 1) m_X9_inn (n2 + 1) 28 [none, some (.int (zI v)), some (.int (zI u)), some (.int (zI p)), some (.int (zI c.1)), some (.int (zI c.2.1)), some (.int (zI c.2.2)), some (.int (zI 2)), none, none] (1, 6) (mkS w (hI S) J) = _
  rw [e_X9_inn_28]
  unfold pick3
  have : p = 0 ∨ p = 1 ∨ p = 2 := by omega
  rcases this with rfl | rfl | rfl <;> simp (disch := omega) only [hk, hu, hI_n, hI_un, z_nat, em_d, zl, z_add, z_sub, z_mul, z_lt, z_eq, gI_mk, gJ_mk, cI_some, cV_some, cJ_some, cI_x, cV_x, cJ_x, uS_self, uS_ne, if_pos, if_neg, b01, b01n, ite_not, if_true, if_false, rI_d]
theorem c_innB {v u p : Int} (hv : -2147483648 ≤ v ∧ v < 2147483648) (hu1 : -2147483648 ≤ u ∧ u < 2147483648) (hp : -2147483648 ≤ p ∧ p < 2147483648) (hn : ¬ ((0 ≤ v ∧ v ≤ 99) ∧ (0 ≤ u ∧ u ≤ 99) ∧ 0 ≤ p ∧ p ≤ 2)) : am_call X aP (d + 2) 127 [.ref 0, .int (zI v), .int (zI u), .int (zI p)] (mkS w (hI S) J) = some (.inr 2, (mkS w (hI (xbS S)) J)) := by
  rw [go_X9_inn, e_X9_inn_0]
  by_cases q1 : 0 ≤ v ∧ v ≤ 99
  · by_cases q2 : 0 ≤ u ∧ u ≤ 99
    · simp (disch := omega) only [hk, hu, hI_n, hI_un, z_nat, em_d, zl, z_add, z_sub, z_mul, z_lt, z_eq, gI_mk, gJ_mk, cI_some, cV_some, cJ_some, cI_x, cV_x, cJ_x, uS_self, uS_ne, if_pos, if_neg, b01, b01n, ite_not, if_true, if_false, c_within, c_req0, rX_d]
    · simp (disch := omega) only [hk, hu, hI_n, hI_un, z_nat, em_d, zl, z_add, z_sub, z_mul, z_lt, z_eq, gI_mk, gJ_mk, cI_some, cV_some, cJ_some, cI_x, cV_x, cJ_x, uS_self, uS_ne, if_pos, if_neg, b01, b01n, ite_not, if_true, if_false, c_within, c_req0, rX_d]
  · simp (disch := omega) only [hk, hu, hI_n, hI_un, z_nat, em_d, zl, z_add, z_sub, z_mul, z_lt, z_eq, gI_mk, gJ_mk, cI_some, cV_some, cJ_some, cI_x, cV_x, cJ_x, uS_self, uS_ne, if_pos, if_neg, b01, b01n, ite_not, if_true, if_false, c_within, c_req0, rX_d]
theorem ml_inn {v u p k : Int} {a : Int × Int × Int} (hv : 0 ≤ v ∧ v ≤ 99) (hu1 : 0 ≤ u ∧ u ≤ 99) (hq : 0 ≤ k ∧ k < 4) (ha : okI v u a) (ha2 : a.1 ≤ 10) (n : Nat) : aR X (d + 1) m_X10_inn (n + 1) 34 [none, some (.int (zI v)), some (.int (zI u)), some (.int (zI p)), some (.int (zI a.1)), some (.int (zI a.2.1)), some (.int (zI k)), none, none] (0, 0) (mkS w (hI S) J) = aR X (d + 1) m_X10_inn n 34 [none, some (.int (zI v)), some (.int (zI u)), some (.int (zI p)), some (.int (zI ((stI v u (k / 2) (k % 2) a).1))), some (.int (zI ((stI v u (k / 2) (k % 2) a).2.1))), some (.int (zI ((k + 1)))), none, none] (0, 0) (mkS w (hI S) J) := by
  obtain ⟨z1, z2, z3, z4, z5⟩ := okI_r hv hu1 ha
  have hi : 0 ≤ k / 2 ∧ k / 2 ≤ 1 := by omega
  have hj : 0 ≤ k % 2 ∧ k % 2 ≤ 1 := by omega
  have e0 : ∀ (x y : Int), (y = k / 2) → (x = k % 2) → True := fun _ _ _ _ => trivial
  rw [e_X10_inn_34]
  simp (disch := omega) only [hk, hu, hI_n, hI_un, z_nat, em_d, zl, z_add, z_sub, z_mul, z_lt, z_eq, gI_mk, gJ_mk, cI_some, cV_some, cJ_some, cI_x, cV_x, cJ_x, uS_self, uS_ne, if_pos, if_neg, b01, b01n, ite_not, if_true, if_false, z_div]
  generalize k / 2 = i at *
  generalize k % 2 = j at *
  have r1 := shF_r (m := i) (h := j) hv hu1
  have r2 := shF_r (m := j) (h := i) hv hu1
  have r3 := shF_r (m := 1 - i) (h := j) hv hu1
  have r4 := shF_r (m := 1 - j) (h := i) hv hu1
  by_cases q : rstI v u i j
  · obtain ⟨q1, q2⟩ := id q
    rcases ha with ha | ⟨h1, i', j', hi', hj', e1, e2⟩
    · have e : stI v u i j a = (a.1 + 1, 10 * i + j, shF v u i j + shF v u j i) := by unfold stI; rw [if_pos q, if_pos ha.1]
      rw [e]
      simp (disch := omega) only [hk, hu, hI_n, hI_un, z_nat, em_d, zl, z_add, z_sub, z_mul, z_lt, z_eq, gI_mk, gJ_mk, cI_some, cV_some, cJ_some, cI_x, cV_x, cJ_x, uS_self, uS_ne, if_pos, if_neg, b01, b01n, ite_not, if_true, if_false, m_hasBy, ha.2.1]
    · have e : stI v u i j a = (a.1 + 1, a.2.1, a.2.2) := by unfold stI; rw [if_pos q, if_neg (by omega)]
      rw [e]
      simp (disch := omega) only [hk, hu, hI_n, hI_un, z_nat, em_d, zl, z_add, z_sub, z_mul, z_lt, z_eq, gI_mk, gJ_mk, cI_some, cV_some, cJ_some, cI_x, cV_x, cJ_x, uS_self, uS_ne, if_pos, if_neg, b01, b01n, ite_not, if_true, if_false, m_hasBy]
  · have e : stI v u i j a = a := if_neg q
    rw [e]
    by_cases q1 : shF v u (1 - i) j ≤ shF v u i j
    · have q2 : ¬ shF v u (1 - j) i ≤ shF v u j i := fun y => q ⟨q1, y⟩
      simp (disch := omega) only [hk, hu, hI_n, hI_un, z_nat, em_d, zl, z_add, z_sub, z_mul, z_lt, z_eq, gI_mk, gJ_mk, cI_some, cV_some, cJ_some, cI_x, cV_x, cJ_x, uS_self, uS_ne, if_pos, if_neg, b01, b01n, ite_not, if_true, if_false, m_hasBy]
    · simp (disch := omega) only [hk, hu, hI_n, hI_un, z_nat, em_d, zl, z_add, z_sub, z_mul, z_lt, z_eq, gI_mk, gJ_mk, cI_some, cV_some, cJ_some, cI_x, cV_x, cJ_x, uS_self, uS_ne, if_pos, if_neg, b01, b01n, ite_not, if_true, if_false, m_hasBy]
theorem m_inn {v u p : Int} (hv : 0 ≤ v ∧ v ≤ 99) (hu1 : 0 ≤ u ∧ u ≤ 99) (hp : 0 ≤ p ∧ p ≤ 2) : am_call X aP (d + 2) 250 [.ref 132, .int (zI v), .int (zI u), .int (zI p)] (mkS w (hI S) J) = some (.inl (some (.int (zI (pick3 p (innR v u))))), (mkS w (hI (uS S 132 0 0)) J)) := by
  have k0 : okI v u (0, -1, 0) := Or.inl ⟨rfl, rfl, rfl⟩
  obtain ⟨k1, k2⟩ := stI_ok (i := 0) (j := 0) (by decide) (by decide) k0
  obtain ⟨k3, k4⟩ := stI_ok (i := 0) (j := 1) (by decide) (by decide) k1
  have k2 : (stI v u 0 0 (0, -1, 0)).1 ≤ 1 := k2
  obtain ⟨k5, k6⟩ := stI_ok (i := 1) (j := 0) (by decide) (by decide) k3
  obtain ⟨k7, k8⟩ := stI_ok (i := 1) (j := 1) (by decide) (by decide) k5
  have h1 := ml_inn (X := X) (d := d) (w := w) (S := uS S 132 0 0) (J := J) (p := p) (k := 0) (a := (0, -1, 0)) hv hu1 (by decide) k0 (by decide) 9999998
  have h2 := ml_inn (X := X) (d := d) (w := w) (S := uS S 132 0 0) (J := J) (p := p) (k := 1) hv hu1 (by decide) k1 (by omega) 9999997
  have h3 := ml_inn (X := X) (d := d) (w := w) (S := uS S 132 0 0) (J := J) (p := p) (k := 2) hv hu1 (by decide) k3 (by omega) 9999996
  have h4 := ml_inn (X := X) (d := d) (w := w) (S := uS S 132 0 0) (J := J) (p := p) (k := 3) hv hu1 (by decide) k5 (by omega) 9999995
  rw [go_X10_inn, e_X10_inn_0]
  simp (disch := omega) only [hk, hu, hI_n, hI_un, z_nat, em_d, zl, z_add, z_sub, z_mul, z_lt, z_eq, gI_mk, gJ_mk, cI_some, cV_some, cJ_some, cI_x, cV_x, cJ_x, uS_self, uS_ne, if_pos, if_neg, b01, b01n, ite_not, if_true, if_false, m_within]
  rw [m_may1 (uS_self _ _ _ _)]
  simp (disch := omega) only [hk, hu, hI_n, hI_un, z_nat, em_d, zl, z_add, z_sub, z_mul, z_lt, z_eq, gI_mk, gJ_mk, cI_some, cV_some, cJ_some, cI_x, cV_x, cJ_x, uS_self, uS_ne, if_pos, if_neg, b01, b01n, ite_not, if_true, if_false]
  refine (show _ = _ from h1).trans ((show _ = _ from h2).trans ((show _ = _ from h3).trans ((show _ = _ from h4).trans ?_)))
  unfold innR
  show aR X (d + 1) m_X10_inn (9999994 + 1) 34 [none, some (.int (zI v)), some (.int (zI u)), some (.int (zI p)), some (.int (zI ((stI v u 1 1 (stI v u 1 0 (stI v u 0 1 (stI v u 0 0 (0, -1, 0))))).1))), some (.int (zI ((stI v u 1 1 (stI v u 1 0 (stI v u 0 1 (stI v u 0 0 (0, -1, 0))))).2.1))), some (.int (zI 4)), none, none] (0, 0) (mkS w (hI (uS S 132 0 0)) J) = _
  generalize stI v u 1 1 (stI v u 1 0 (stI v u 0 1 (stI v u 0 0 (0, -1, 0)))) = c at *
  obtain ⟨y1, y2, y3, y4, y5⟩ := okI_r hv hu1 k7
  rw [e_X10_inn_34]
  unfold pick3
  have hp3 : p = 0 ∨ p = 1 ∨ p = 2 := by omega
  rcases hp3 with rfl | rfl | rfl
  · simp (disch := omega) only [hk, hu, hI_n, hI_un, z_nat, em_d, zl, z_add, z_sub, z_mul, z_lt, z_eq, gI_mk, gJ_mk, cI_some, cV_some, cJ_some, cI_x, cV_x, cJ_x, uS_self, uS_ne, if_pos, if_neg, b01, b01n, ite_not, if_true, if_false, rI_d]
  · simp (disch := omega) only [hk, hu, hI_n, hI_un, z_nat, em_d, zl, z_add, z_sub, z_mul, z_lt, z_eq, gI_mk, gJ_mk, cI_some, cV_some, cJ_some, cI_x, cV_x, cJ_x, uS_self, uS_ne, if_pos, if_neg, b01, b01n, ite_not, if_true, if_false, rI_d]
  · rcases k7 with k7 | ⟨g1, i, j, hi, hj, e1, e2⟩
    · simp (disch := omega) only [hk, hu, hI_n, hI_un, z_nat, em_d, zl, z_add, z_sub, z_mul, z_lt, z_eq, gI_mk, gJ_mk, cI_some, cV_some, cJ_some, cI_x, cV_x, cJ_x, uS_self, uS_ne, if_pos, if_neg, b01, b01n, ite_not, if_true, if_false, k7.2.1, k7.2.2, rI_d]
    · have ei : (10 * i + j) / 10 = i := by omega
      have ej : 10 * i + j - i * 10 = j := by omega
      have r1 := shF_r (m := i) (h := j) hv hu1
      have r2 := shF_r (m := j) (h := i) hv hu1
      simp (disch := omega) only [hk, hu, hI_n, hI_un, z_nat, em_d, zl, z_add, z_sub, z_mul, z_lt, z_eq, gI_mk, gJ_mk, cI_some, cV_some, cJ_some, cI_x, cV_x, cJ_x, uS_self, uS_ne, if_pos, if_neg, b01, b01n, ite_not, if_true, if_false, z_div, e1, e2, ei, ej, m_hasBy, rI_d]
theorem m_innB {v u p : Int} (hv : -2147483648 ≤ v ∧ v < 2147483648) (hu1 : -2147483648 ≤ u ∧ u < 2147483648) (hp : -2147483648 ≤ p ∧ p < 2147483648) (hn : ¬ ((0 ≤ v ∧ v ≤ 99) ∧ (0 ≤ u ∧ u ≤ 99) ∧ 0 ≤ p ∧ p ≤ 2)) : am_call X aP (d + 2) 250 [.ref 132, .int (zI v), .int (zI u), .int (zI p)] (mkS w (hI S) J) = some (.inl (some (.int (zI 0))), (mkS w (hI (mxB S 1)) J)) := by
  have hmm := fun d => m_may0 (X := X) (d := d) (w := w) (J := J) (S := uS S 132 0 0) (uS_self _ _ _ _) (cd := 1) (k := 1) (by decide) (by decide)
  rw [go_X10_inn, e_X10_inn_0]
  by_cases q1 : 0 ≤ v ∧ v ≤ 99
  · by_cases q2 : 0 ≤ u ∧ u ≤ 99
    · simp (disch := omega) only [hk, hu, hI_n, hI_un, z_nat, em_d, zl, z_add, z_sub, z_mul, z_lt, z_eq, gI_mk, gJ_mk, cI_some, cV_some, cJ_some, cI_x, cV_x, cJ_x, uS_self, uS_ne, if_pos, if_neg, b01, b01n, ite_not, if_true, if_false, m_within]
      rw [hmm]
      simp (disch := omega) only [hk, hu, hI_n, hI_un, z_nat, em_d, zl, z_add, z_sub, z_mul, z_lt, z_eq, gI_mk, gJ_mk, cI_some, cV_some, cJ_some, cI_x, cV_x, cJ_x, uS_self, uS_ne, if_pos, if_neg, b01, b01n, ite_not, if_true, if_false, rI_d]
      rfl
    · simp (disch := omega) only [hk, hu, hI_n, hI_un, z_nat, em_d, zl, z_add, z_sub, z_mul, z_lt, z_eq, gI_mk, gJ_mk, cI_some, cV_some, cJ_some, cI_x, cV_x, cJ_x, uS_self, uS_ne, if_pos, if_neg, b01, b01n, ite_not, if_true, if_false, m_within]
      rw [hmm]
      simp (disch := omega) only [hk, hu, hI_n, hI_un, z_nat, em_d, zl, z_add, z_sub, z_mul, z_lt, z_eq, gI_mk, gJ_mk, cI_some, cV_some, cJ_some, cI_x, cV_x, cJ_x, uS_self, uS_ne, if_pos, if_neg, b01, b01n, ite_not, if_true, if_false, rI_d]
      rfl
  · simp (disch := omega) only [hk, hu, hI_n, hI_un, z_nat, em_d, zl, z_add, z_sub, z_mul, z_lt, z_eq, gI_mk, gJ_mk, cI_some, cV_some, cJ_some, cI_x, cV_x, cJ_x, uS_self, uS_ne, if_pos, if_neg, b01, b01n, ite_not, if_true, if_false, m_within]
    rw [hmm]
    simp (disch := omega) only [hk, hu, hI_n, hI_un, z_nat, em_d, zl, z_add, z_sub, z_mul, z_lt, z_eq, gI_mk, gJ_mk, cI_some, cV_some, cJ_some, cI_x, cV_x, cJ_x, uS_self, uS_ne, if_pos, if_neg, b01, b01n, ite_not, if_true, if_false, rI_d]
    rfl
end INN
