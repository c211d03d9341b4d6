/-! THE REFERENCE: lasts, soon, reach, day, farthest, latest -/
def Mw (nR nC : Int) (pl s : Int → Int) (S T : Hp) : Prop := QuM S T ∧ ScP nR nC T s ∧ ∀ r, 0 ≤ r → r < nR → T 153 r = pl r
section MPB
variable {X : Nat × (Nat → Int32)} {d : Nat} {w : Bool × Bool × Bool} {S : Hp} {J : Nat → Nat → Int64} {nT nR nC : Int} {rd s : Int → Int} {cd : List (Int × Int)}
theorem m_lays {T : Hp} (hL : LdP S nT nR nC rd) (hv : Sc nR nC s) (hW : Mw nR nC (plainZ cd rd) s S T) {t h : Int} (ht : 0 ≤ t ∧ t < nT) (hh : 0 ≤ h ∧ h ≤ 6000) : ∃ T', am_call X aP (d + 4) 226 [.ref 132, .int (zI t), .int (zI h)] (mkS w (hI T) J) = some (.inl none, (mkS w (hI T') J)) ∧ (∀ k, 0 ≤ k → k < 7 → T' 154 k = soonF rd s (plainZ cd rd) nT nR t h k) ∧ Mw nR nC (plainZ cd rd) s S T' := by
  obtain ⟨T', g1, g2, g3, g4⟩ := m_laysSoon (X := X) (d := d) (w := w) (J := J) (LdP_q hL hW.1) hW.2.1 (fun r r1 r2 => (Sc_w hv).1 r r1 r2) hW.2.2 (PL_z cd rd nR) ht hh
  exact ⟨T', g1, g2, QuM_fr hW.1 g4 (by decide) (by decide), ScP_fr hW.2.1 g4 (by decide), g3⟩
theorem m_soonOf {T : Hp} (hL : LdP S nT nR nC rd) (hE : Ends nT nR rd) (hv : Sc nR nC s) (hW : Mw nR nC (plainZ cd rd) s S T) {t o h : Int} (ht : 0 ≤ t ∧ t < nT) (ho : 0 ≤ o ∧ o < nT) (hh : 0 ≤ h ∧ h ≤ 6000) : ∃ T', am_call X aP (d + 5) 227 [.ref 132, .int (zI t), .int (zI o), .int (zI h)] (mkS w (hI T) J) = some (.inl (some (.int (zI (soonF rd s (plainZ cd rd) nT nR t h o)))), (mkS w (hI T') J)) ∧ (∀ k, 0 ≤ k → k < 7 → T' 154 k = soonF rd s (plainZ cd rd) nT nR t h k) ∧ Mw nR nC (plainZ cd rd) s S T' := by
  obtain ⟨T', g1, g2, g3⟩ := m_lays (X := X) (d := d) (w := w) (J := J) hL hv hW ht hh
  have a6 := hL.2.2.2.2.2.1
  have e := g2 o ho.1 (by omega)
  refine ⟨T', ?_, g2, g3⟩
  rw [go_X10_soonOf, e_X10_soonOf_0, g1]
  simp (disch := omega) only [hk, hu, hI_n, hI_un, z_nat, em_d, zl, z_add, z_sub, z_mul, z_lt, z_eq, gI_mk, gJ_mk, cI_some, cV_some, cJ_some, cI_x, cV_x, cJ_x, uS_self, uS_ne, if_pos, if_neg, b01, b01n, ite_not, if_true, if_false, e, rI_d]
theorem m_lasts (hL : LdP S nT nR nC rd) (hE : Ends nT nR rd) (hn : NwP nR nC S s) (hv : Sc nR nC s) (hc : CdP S cd) {r h : Int} (hr : 0 ≤ r ∧ r < nR) (hh : 0 ≤ h ∧ h ≤ 5600) : ∃ S', am_call X aP (d + 7) 225 [.ref 132, .int (zI r), .int (zI h)] (mkS w (hI S) J) = some (.inl (some (.int (zI (tk (rd (4 * r + 2)) (plainZ cd rd r) (s r) h)))), (mkS w (hI S') J)) ∧ QuM S S' := by
  have hq0 := QuM_0 S
  obtain ⟨a1, a2, a3, a4, a5, a6, a7, a8, a9, a10, a11⟩ := id hL
  obtain ⟨S1, h1, h2, h3⟩ := m_takeP (X := X) (d := d + 4) (w := w) (J := J) (NwP_q hn hq0) a8 a10
  have hq1 := QuM_fr hq0 h3 (by decide) (by decide)
  obtain ⟨S2, h4, h5, h6⟩ := m_laysPlain (X := X) (d := d) (w := w) (J := J) (LdP_q hL hq1) (CdP_q hc hq1)
  have hW : Mw nR nC (plainZ cd rd) s S S2 := ⟨QuM_fr hq1 h6 (by decide) (by decide), ScP_fr h2 h6 (by decide), h5⟩
  have htk := fun d => m_takenOf (X := X) (d := d) (w := w) (J := J) (LdP_q hL hW.1) hW.2.1 (fun r r1 r2 => (Sc_w hv).1 r r1 r2) hW.2.2 (PL_z cd rd nR) hr (h := h) (m := 999) (by omega) (by omega)
  have ek : tkM (rd (4 * r + 2)) (plainZ cd rd r) (s r) h (999 : Int).toNat = tk (rd (4 * r + 2)) (plainZ cd rd r) (s r) h := rfl
  refine ⟨S2, ?_, hW.1⟩
  rw [go_X10_lasts, e_X10_lasts_0, z_0, hu.1, m_isRoad1 (LdP_q hL hq0) (uS_self _ _ _ _) hr]
  simp (disch := omega) only [hk, hu, hI_n, hI_un, z_nat, em_d, zl, z_add, z_sub, z_mul, z_lt, z_eq, gI_mk, gJ_mk, cI_some, cV_some, cJ_some, cI_x, cV_x, cJ_x, uS_self, uS_ne, if_pos, if_neg, b01, b01n, ite_not, if_true, if_false, m_within]
  rw [m_may1 (uS_self _ _ _ _)]
  simp (disch := omega) only [hk, hu, hI_n, hI_un, z_nat, em_d, zl, z_add, z_sub, z_mul, z_lt, z_eq, gI_mk, gJ_mk, cI_some, cV_some, cJ_some, cI_x, cV_x, cJ_x, uS_self, uS_ne, if_pos, if_neg, b01, b01n, ite_not, if_true, if_false]
  rw [h1]
  simp (disch := omega) only [hk, hu, hI_n, hI_un, z_nat, em_d, zl, z_add, z_sub, z_mul, z_lt, z_eq, gI_mk, gJ_mk, cI_some, cV_some, cJ_some, cI_x, cV_x, cJ_x, uS_self, uS_ne, if_pos, if_neg, b01, b01n, ite_not, if_true, if_false]
  rw [h4]
  simp (disch := omega) only [hk, hu, hI_n, hI_un, z_nat, em_d, zl, z_add, z_sub, z_mul, z_lt, z_eq, gI_mk, gJ_mk, cI_some, cV_some, cJ_some, cI_x, cV_x, cJ_x, uS_self, uS_ne, if_pos, if_neg, b01, b01n, ite_not, if_true, if_false]
  rw [htk, ek]
  simp (disch := omega) only [hk, hu, hI_n, hI_un, z_nat, em_d, zl, z_add, z_sub, z_mul, z_lt, z_eq, gI_mk, gJ_mk, cI_some, cV_some, cJ_some, cI_x, cV_x, cJ_x, uS_self, uS_ne, if_pos, if_neg, b01, b01n, ite_not, if_true, if_false, rI_d]
theorem m_lastsN (hL : LdP S nT nR nC rd) {r h : Int} (hrb : -2147483648 ≤ r ∧ r < 2147483648) (hr : ¬ (0 ≤ r ∧ r < nR)) : am_call X aP (d + 7) 225 [.ref 132, .int (zI r), .int (zI h)] (mkS w (hI S) J) = some (.inl (some (.int (zI 0))), (mkS w (hI (mxN S)) J)) := by
  rw [go_X10_lasts, e_X10_lasts_0, z_0, hu.1, m_isRoad0 (LdP_q hL (QuM_0 S)) (uS_self _ _ _ _) hrb hr]
  simp (disch := omega) only [hk, hu, hI_n, hI_un, z_nat, em_d, zl, z_add, z_sub, z_mul, z_lt, z_eq, gI_mk, gJ_mk, cI_some, cV_some, cJ_some, cI_x, cV_x, cJ_x, uS_self, uS_ne, if_pos, if_neg, b01, b01n, ite_not, if_true, if_false, rI_d]
  rfl
theorem m_lastsB (hL : LdP S nT nR nC rd) {r h : Int} (hr : 0 ≤ r ∧ r < nR) (hhb : -2147483648 ≤ h ∧ h < 2147483648) (hh : ¬ (0 ≤ h ∧ h ≤ 5600)) : am_call X aP (d + 7) 225 [.ref 132, .int (zI r), .int (zI h)] (mkS w (hI S) J) = some (.inl (some (.int (zI 0))), (mkS w (hI (mxB S 2)) J)) := by
  rw [go_X10_lasts, e_X10_lasts_0, z_0, hu.1, m_isRoad1 (LdP_q hL (QuM_0 S)) (uS_self _ _ _ _) hr]
  simp (disch := omega) only [hk, hu, hI_n, hI_un, z_nat, em_d, zl, z_add, z_sub, z_mul, z_lt, z_eq, gI_mk, gJ_mk, cI_some, cV_some, cJ_some, cI_x, cV_x, cJ_x, uS_self, uS_ne, if_pos, if_neg, b01, b01n, ite_not, if_true, if_false, m_within]
  rw [m_may0 (uS_self _ _ _ _) (by decide) (by decide)]
  simp (disch := omega) only [hk, hu, hI_n, hI_un, z_nat, em_d, zl, z_add, z_sub, z_mul, z_lt, z_eq, gI_mk, gJ_mk, cI_some, cV_some, cJ_some, cI_x, cV_x, cJ_x, uS_self, uS_ne, if_pos, if_neg, b01, b01n, ite_not, if_true, if_false, rI_d]
  rfl
theorem m_soon (hL : LdP S nT nR nC rd) (hE : Ends nT nR rd) (hn : NwP nR nC S s) (hv : Sc nR nC s) (hc : CdP S cd) {t o h : Int} (ht : 0 ≤ t ∧ t < nT) (ho : 0 ≤ o ∧ o < nT) (hh : 0 ≤ h ∧ h ≤ 5600) : ∃ S', am_call X aP (d + 7) 228 [.ref 132, .int (zI t), .int (zI o), .int (zI h)] (mkS w (hI S) J) = some (.inl (some (.int (zI (soonF rd s (plainZ cd rd) nT nR t h o)))), (mkS w (hI S') J)) ∧ QuM S S' := by
  have hq0 := QuM_0 S
  obtain ⟨a1, a2, a3, a4, a5, a6, a7, a8, a9, a10, a11⟩ := id hL
  obtain ⟨S1, h1, h2, h3⟩ := m_takeP (X := X) (d := d + 4) (w := w) (J := J) (NwP_q hn hq0) a8 a10
  have hq1 := QuM_fr hq0 h3 (by decide) (by decide)
  obtain ⟨S2, h4, h5, h6⟩ := m_laysPlain (X := X) (d := d) (w := w) (J := J) (LdP_q hL hq1) (CdP_q hc hq1)
  have hW : Mw nR nC (plainZ cd rd) s S S2 := ⟨QuM_fr hq1 h6 (by decide) (by decide), ScP_fr h2 h6 (by decide), h5⟩
  obtain ⟨S3, g1, g2, g3⟩ := m_soonOf (X := X) (d := d + 1) (w := w) (J := J) hL hE hv hW ht ho (h := h) (by omega)
  refine ⟨S3, ?_, g3.1⟩
  rw [go_X10_soon, e_X10_soon_0, z_0, hu.1, m_isTown1 (LdP_q hL (QuM_0 S)) (uS_self _ _ _ _) ht]
  simp (disch := omega) only [hk, hu, hI_n, hI_un, z_nat, em_d, zl, z_add, z_sub, z_mul, z_lt, z_eq, gI_mk, gJ_mk, cI_some, cV_some, cJ_some, cI_x, cV_x, cJ_x, uS_self, uS_ne, if_pos, if_neg, b01, b01n, ite_not, if_true, if_false]
  rw [m_isTown1 (LdP_q hL (QuM_0 S)) (uS_self _ _ _ _) ho]
  simp (disch := omega) only [hk, hu, hI_n, hI_un, z_nat, em_d, zl, z_add, z_sub, z_mul, z_lt, z_eq, gI_mk, gJ_mk, cI_some, cV_some, cJ_some, cI_x, cV_x, cJ_x, uS_self, uS_ne, if_pos, if_neg, b01, b01n, ite_not, if_true, if_false, m_within]
  rw [m_may1 (uS_self _ _ _ _)]
  simp (disch := omega) only [hk, hu, hI_n, hI_un, z_nat, em_d, zl, z_add, z_sub, z_mul, z_lt, z_eq, gI_mk, gJ_mk, cI_some, cV_some, cJ_some, cI_x, cV_x, cJ_x, uS_self, uS_ne, if_pos, if_neg, b01, b01n, ite_not, if_true, if_false]
  rw [h1]
  simp (disch := omega) only [hk, hu, hI_n, hI_un, z_nat, em_d, zl, z_add, z_sub, z_mul, z_lt, z_eq, gI_mk, gJ_mk, cI_some, cV_some, cJ_some, cI_x, cV_x, cJ_x, uS_self, uS_ne, if_pos, if_neg, b01, b01n, ite_not, if_true, if_false]
  rw [h4]
  simp (disch := omega) only [hk, hu, hI_n, hI_un, z_nat, em_d, zl, z_add, z_sub, z_mul, z_lt, z_eq, gI_mk, gJ_mk, cI_some, cV_some, cJ_some, cI_x, cV_x, cJ_x, uS_self, uS_ne, if_pos, if_neg, b01, b01n, ite_not, if_true, if_false]
  rw [g1]
  simp (disch := omega) only [hk, hu, hI_n, hI_un, z_nat, em_d, zl, z_add, z_sub, z_mul, z_lt, z_eq, gI_mk, gJ_mk, cI_some, cV_some, cJ_some, cI_x, cV_x, cJ_x, uS_self, uS_ne, if_pos, if_neg, b01, b01n, ite_not, if_true, if_false, rI_d]
theorem m_soonN (hL : LdP S nT nR nC rd) {t o h : Int} (htb : -2147483648 ≤ t ∧ t < 2147483648) (hob : -2147483648 ≤ o ∧ o < 2147483648) (hne : ¬ ((0 ≤ t ∧ t < nT) ∧ 0 ≤ o ∧ o < nT)) : am_call X aP (d + 7) 228 [.ref 132, .int (zI t), .int (zI o), .int (zI h)] (mkS w (hI S) J) = some (.inl (some (.int (zI 0))), (mkS w (hI (mxN S)) J)) := by
  rw [go_X10_soon, e_X10_soon_0, z_0, hu.1]
  by_cases q : 0 ≤ t ∧ t < nT
  · rw [m_isTown1 (LdP_q hL (QuM_0 S)) (uS_self _ _ _ _) q]
    simp (disch := omega) only [hk, hu, hI_n, hI_un, z_nat, em_d, zl, z_add, z_sub, z_mul, z_lt, z_eq, gI_mk, gJ_mk, cI_some, cV_some, cJ_some, cI_x, cV_x, cJ_x, uS_self, uS_ne, if_pos, if_neg, b01, b01n, ite_not, if_true, if_false]
    rw [m_isTown0 (LdP_q hL (QuM_0 S)) (uS_self _ _ _ _) hob (fun z => hne ⟨q, z⟩)]
    simp (disch := omega) only [hk, hu, hI_n, hI_un, z_nat, em_d, zl, z_add, z_sub, z_mul, z_lt, z_eq, gI_mk, gJ_mk, cI_some, cV_some, cJ_some, cI_x, cV_x, cJ_x, uS_self, uS_ne, if_pos, if_neg, b01, b01n, ite_not, if_true, if_false, rI_d]
    rfl
  · rw [m_isTown0 (LdP_q hL (QuM_0 S)) (uS_self _ _ _ _) htb q]
    simp (disch := omega) only [hk, hu, hI_n, hI_un, z_nat, em_d, zl, z_add, z_sub, z_mul, z_lt, z_eq, gI_mk, gJ_mk, cI_some, cV_some, cJ_some, cI_x, cV_x, cJ_x, uS_self, uS_ne, if_pos, if_neg, b01, b01n, ite_not, if_true, if_false, rI_d]
    rfl
theorem m_soonB (hL : LdP S nT nR nC rd) {t o h : Int} (ht : 0 ≤ t ∧ t < nT) (ho : 0 ≤ o ∧ o < nT) (hhb : -2147483648 ≤ h ∧ h < 2147483648) (hh : ¬ (0 ≤ h ∧ h ≤ 5600)) : am_call X aP (d + 7) 228 [.ref 132, .int (zI t), .int (zI o), .int (zI h)] (mkS w (hI S) J) = some (.inl (some (.int (zI 0))), (mkS w (hI (mxB S 2)) J)) := by
  rw [go_X10_soon, e_X10_soon_0, z_0, hu.1, m_isTown1 (LdP_q hL (QuM_0 S)) (uS_self _ _ _ _) ht]
  simp (disch := omega) only [hk, hu, hI_n, hI_un, z_nat, em_d, zl, z_add, z_sub, z_mul, z_lt, z_eq, gI_mk, gJ_mk, cI_some, cV_some, cJ_some, cI_x, cV_x, cJ_x, uS_self, uS_ne, if_pos, if_neg, b01, b01n, ite_not, if_true, if_false]
  rw [m_isTown1 (LdP_q hL (QuM_0 S)) (uS_self _ _ _ _) ho]
  simp (disch := omega) only [hk, hu, hI_n, hI_un, z_nat, em_d, zl, z_add, z_sub, z_mul, z_lt, z_eq, gI_mk, gJ_mk, cI_some, cV_some, cJ_some, cI_x, cV_x, cJ_x, uS_self, uS_ne, if_pos, if_neg, b01, b01n, ite_not, if_true, if_false, m_within]
  rw [m_may0 (uS_self _ _ _ _) (by decide) (by decide)]
  simp (disch := omega) only [hk, hu, hI_n, hI_un, z_nat, em_d, zl, z_add, z_sub, z_mul, z_lt, z_eq, gI_mk, gJ_mk, cI_some, cV_some, cJ_some, cI_x, cV_x, cJ_x, uS_self, uS_ne, if_pos, if_neg, b01, b01n, ite_not, if_true, if_false, rI_d]
  rfl
theorem m_reach (hL : LdP S nT nR nC rd) (hE : Ends nT nR rd) (hn : NwP nR nC S s) (hv : Sc nR nC s) (hc : CdP S cd) (h50 : s 50 ≤ 5600) {t n : Int} (ht : 0 ≤ t ∧ t < nT) (hnn : 0 ≤ n ∧ n ≤ 200) : ∃ S', am_call X aP (d + 7) 234 [.ref 132, .int (zI t), .int (zI n)] (mkS w (hI S) J) = some (.inl (some (.int (zI ((reachB nT (soonF rd s (plainZ cd rd) nT nR t (s 50)) n : Nat))))), (mkS w (hI S') J)) ∧ QuM S S' := by
  have hq0 := QuM_0 S
  obtain ⟨a1, a2, a3, a4, a5, a6, a7, a8, a9, a10, a11⟩ := id hL
  obtain ⟨S1, h1, h2, h3⟩ := m_takeP (X := X) (d := d + 4) (w := w) (J := J) (NwP_q hn hq0) a8 a10
  have hq1 := QuM_fr hq0 h3 (by decide) (by decide)
  obtain ⟨S2, h4, h5, h6⟩ := m_laysPlain (X := X) (d := d) (w := w) (J := J) (LdP_q hL hq1) (CdP_q hc hq1)
  have hW : Mw nR nC (plainZ cd rd) s S S2 := ⟨QuM_fr hq1 h6 (by decide) (by decide), ScP_fr h2 h6 (by decide), h5⟩
  have t50 := hv.2.2.1
  have e50 := hW.2.1 50 (by unfold Vd; omega)
  obtain ⟨S3, g1, g2, g3⟩ := m_lays (X := X) (d := d + 2) (w := w) (J := J) hL hv hW ht (h := s 50) (by omega)
  have t6 := (LdP_q hL g3.1).1
  have hD := soon_r cd (s := s) (h := s 50) hE a5 a7 ht
  refine ⟨S3, ?_, g3.1⟩
  rw [go_X10_reach, e_X10_reach_0, z_0, hu.1, m_isTown1 (LdP_q hL hq0) (uS_self _ _ _ _) ht]
  simp (disch := omega) only [hk, hu, hI_n, hI_un, z_nat, em_d, zl, z_add, z_sub, z_mul, z_lt, z_eq, gI_mk, gJ_mk, cI_some, cV_some, cJ_some, cI_x, cV_x, cJ_x, uS_self, uS_ne, if_pos, if_neg, b01, b01n, ite_not, if_true, if_false, m_within]
  rw [m_may1 (uS_self _ _ _ _)]
  simp (disch := omega) only [hk, hu, hI_n, hI_un, z_nat, em_d, zl, z_add, z_sub, z_mul, z_lt, z_eq, gI_mk, gJ_mk, cI_some, cV_some, cJ_some, cI_x, cV_x, cJ_x, uS_self, uS_ne, if_pos, if_neg, b01, b01n, ite_not, if_true, if_false]
  rw [h1]
  simp (disch := omega) only [hk, hu, hI_n, hI_un, z_nat, em_d, zl, z_add, z_sub, z_mul, z_lt, z_eq, gI_mk, gJ_mk, cI_some, cV_some, cJ_some, cI_x, cV_x, cJ_x, uS_self, uS_ne, if_pos, if_neg, b01, b01n, ite_not, if_true, if_false]
  rw [h4]
  simp (disch := omega) only [hk, hu, hI_n, hI_un, z_nat, em_d, zl, z_add, z_sub, z_mul, z_lt, z_eq, gI_mk, gJ_mk, cI_some, cV_some, cJ_some, cI_x, cV_x, cJ_x, uS_self, uS_ne, if_pos, if_neg, b01, b01n, ite_not, if_true, if_false, e50]
  rw [g1]
  simp (disch := omega) only [hk, hu, hI_n, hI_un, z_nat, em_d, zl, z_add, z_sub, z_mul, z_lt, z_eq, gI_mk, gJ_mk, cI_some, cV_some, cJ_some, cI_x, cV_x, cJ_x, uS_self, uS_ne, if_pos, if_neg, b01, b01n, ite_not, if_true, if_false]
  generalize soonF rd s (plainZ cd rd) nT nR t (s 50) = D at g2 hD
  refine loop_bits (fun x k m => aR X (d + 6) m_X10_reach x 33 [some (.ref 132), none, some (.int (zI n)), some (.int (zI m)), some (.int (zI k))] (0, 0) (mkS w (hI S3) J)) (fun x => decide (¬ D x = -1 ∧ D x ≤ n)) nT 1 (fun m => some (.inl (some (.int (zI m))), (mkS w (hI S3) J))) (by omega) (fun x k m q1 q2 q3 => ?_) (fun x m q1 => ?_) 9999999 (by omega)
  · show aR X (d + 6) m_X10_reach (x + 1) 33 [some (.ref 132), none, some (.int (zI n)), some (.int (zI ((m : Int)))), some (.int (zI k))] (0, 0) (mkS w (hI S3) J) = aR X (d + 6) m_X10_reach x 33 [some (.ref 132), none, some (.int (zI n)), some (.int (zI (((m ||| (if decide (¬ D k = -1 ∧ D k ≤ n) = true then 2 ^ k.toNat else 0) : Nat) : Int)))), some (.int (zI ((k + 1))))] (0, 0) (mkS w (hI S3) J)
    have e := g2 k q1 (by omega)
    have hd := hD k
    rw [e_X10_reach_33]
    by_cases p1 : D k = -1
    · simp (disch := omega) only [hk, hu, hI_n, hI_un, z_nat, em_d, zl, z_add, z_sub, z_mul, z_lt, z_eq, gI_mk, gJ_mk, cI_some, cV_some, cJ_some, cI_x, cV_x, cJ_x, uS_self, uS_ne, if_pos, if_neg, b01, b01n, ite_not, if_true, if_false, t6, e, p1, not_true_eq_false, false_and, decide_false, Bool.false_eq_true, Nat.or_zero, z_or0]
    · by_cases p2 : D k ≤ n
      · simp (disch := omega) only [hk, hu, hI_n, hI_un, z_nat, em_d, zl, z_add, z_sub, z_mul, z_lt, z_eq, gI_mk, gJ_mk, cI_some, cV_some, cJ_some, cI_x, cV_x, cJ_x, uS_self, uS_ne, if_pos, if_neg, b01, b01n, ite_not, if_true, if_false, t6, e, p1, p2, not_false_eq_true, and_self, decide_true, z_shl1, z_or]
      · simp (disch := omega) only [hk, hu, hI_n, hI_un, z_nat, em_d, zl, z_add, z_sub, z_mul, z_lt, z_eq, gI_mk, gJ_mk, cI_some, cV_some, cJ_some, cI_x, cV_x, cJ_x, uS_self, uS_ne, if_pos, if_neg, b01, b01n, ite_not, if_true, if_false, t6, e, p1, p2, not_false_eq_true, and_false, decide_false, Bool.false_eq_true, Nat.or_zero, z_or0]
  · obtain ⟨x, rfl⟩ : ∃ n', x = n' + 1 := ⟨x - 1, by omega⟩
    show aR X (d + 6) m_X10_reach (x + 1) 33 [some (.ref 132), none, some (.int (zI n)), some (.int (zI m)), some (.int (zI nT))] (0, 0) (mkS w (hI S3) J) = _
    rw [e_X10_reach_33]
    simp (disch := omega) only [hk, hu, hI_n, hI_un, z_nat, em_d, zl, z_add, z_sub, z_mul, z_lt, z_eq, gI_mk, gJ_mk, cI_some, cV_some, cJ_some, cI_x, cV_x, cJ_x, uS_self, uS_ne, if_pos, if_neg, b01, b01n, ite_not, if_true, if_false, t6, rI_d]
theorem m_reachN (hL : LdP S nT nR nC rd) {t n : Int} (htb : -2147483648 ≤ t ∧ t < 2147483648) (ht : ¬ (0 ≤ t ∧ t < nT)) : am_call X aP (d + 7) 234 [.ref 132, .int (zI t), .int (zI n)] (mkS w (hI S) J) = some (.inl (some (.int (zI 0))), (mkS w (hI (mxN S)) J)) := by
  rw [go_X10_reach, e_X10_reach_0, z_0, hu.1, m_isTown0 (LdP_q hL (QuM_0 S)) (uS_self _ _ _ _) htb ht]
  simp (disch := omega) only [hk, hu, hI_n, hI_un, z_nat, em_d, zl, z_add, z_sub, z_mul, z_lt, z_eq, gI_mk, gJ_mk, cI_some, cV_some, cJ_some, cI_x, cV_x, cJ_x, uS_self, uS_ne, if_pos, if_neg, b01, b01n, ite_not, if_true, if_false, rI_d]
  rfl
theorem m_reachB (hL : LdP S nT nR nC rd) {t n : Int} (ht : 0 ≤ t ∧ t < nT) (hnb : -2147483648 ≤ n ∧ n < 2147483648) (hh : ¬ (0 ≤ n ∧ n ≤ 200)) : am_call X aP (d + 7) 234 [.ref 132, .int (zI t), .int (zI n)] (mkS w (hI S) J) = some (.inl (some (.int (zI 0))), (mkS w (hI (mxB S 2)) J)) := by
  rw [go_X10_reach, e_X10_reach_0, z_0, hu.1, m_isTown1 (LdP_q hL (QuM_0 S)) (uS_self _ _ _ _) ht]
  simp (disch := omega) only [hk, hu, hI_n, hI_un, z_nat, em_d, zl, z_add, z_sub, z_mul, z_lt, z_eq, gI_mk, gJ_mk, cI_some, cV_some, cJ_some, cI_x, cV_x, cJ_x, uS_self, uS_ne, if_pos, if_neg, b01, b01n, ite_not, if_true, if_false, m_within]
  rw [m_may0 (uS_self _ _ _ _) (by decide) (by decide)]
  simp (disch := omega) only [hk, hu, hI_n, hI_un, z_nat, em_d, zl, z_add, z_sub, z_mul, z_lt, z_eq, gI_mk, gJ_mk, cI_some, cV_some, cJ_some, cI_x, cV_x, cJ_x, uS_self, uS_ne, if_pos, if_neg, b01, b01n, ite_not, if_true, if_false, rI_d]
  rfl
theorem ml_latest (hL : LdP S nT nR nC rd) (hE : Ends nT nR rd) (hv : Sc nR nC s) {t o h n : Int} (ht : 0 ≤ t ∧ t < nT) (ho : 0 ≤ o ∧ o < nT) (hh : 0 ≤ h ∧ h ≤ 5600) (hn : 0 ≤ n ∧ n ≤ 200) : ∀ (m : Nat) (T : Hp), (m : Int) ≤ 200 → Mw nR nC (plainZ cd rd) s S T → ∃ S', (∀ x, m + 2 ≤ x → aR X (d + 6) m_X10_latest x 37 [some (.ref 132), some (.int (zI t)), some (.int (zI o)), some (.int (zI h)), some (.int (zI n)), some (.int (zI ((m : Int)))), none] (0, 0) (mkS w (hI T) J) = some (.inl (some (.int (zI (latD (fun h => soonF rd s (plainZ cd rd) nT nR t h o) h n m)))), (mkS w (hI S') J))) ∧ QuM S S' := by
  intro m
  have a5 := hL.2.2.2.2.1
  have a7 := hL.2.2.2.2.2.2.1
  induction m with
  | zero =>
    intro T hm hW
    obtain ⟨T', g1, -, g3⟩ := m_soonOf (X := X) (d := d + 1) (w := w) (J := J) hL hE hv hW ht ho (h := h + ((0 : Nat) : Int)) (by omega)
    have hr := soon_r cd (s := s) (h := h + ((0 : Nat) : Int)) hE a5 a7 ht o
    have el : latD (fun h => soonF rd s (plainZ cd rd) nT nR t h o) h n 0 = if ¬ soonF rd s (plainZ cd rd) nT nR t (h + ((0 : Nat) : Int)) o = -1 ∧ soonF rd s (plainZ cd rd) nT nR t (h + ((0 : Nat) : Int)) o + 0 ≤ n then 0 else -1 := rfl
    refine ⟨T', fun x hx => ?_, g3.1⟩
    obtain ⟨x, rfl⟩ : ∃ x', x = x' + 2 := ⟨x - 2, by omega⟩
    rw [el, e_X10_latest_37]
    simp (disch := omega) only [hk, hu, hI_n, hI_un, z_nat, em_d, zl, z_add, z_sub, z_mul, z_lt, z_eq, gI_mk, gJ_mk, cI_some, cV_some, cJ_some, cI_x, cV_x, cJ_x, uS_self, uS_ne, if_pos, if_neg, b01, b01n, ite_not, if_true, if_false]
    rw [g1]
    generalize soonF rd s (plainZ cd rd) nT nR t (h + ((0 : Nat) : Int)) o = v at hr
    by_cases p1 : v = -1
    · rw [if_neg (show ¬ (¬ v = -1 ∧ v + 0 ≤ n) from fun z => z.1 p1)]
      simp (disch := omega) only [hk, hu, hI_n, hI_un, z_nat, em_d, zl, z_add, z_sub, z_mul, z_lt, z_eq, gI_mk, gJ_mk, cI_some, cV_some, cJ_some, cI_x, cV_x, cJ_x, uS_self, uS_ne, if_pos, if_neg, b01, b01n, ite_not, if_true, if_false, p1]
      rw [e_X10_latest_37]
      simp (disch := omega) only [hk, hu, hI_n, hI_un, z_nat, em_d, zl, z_add, z_sub, z_mul, z_lt, z_eq, gI_mk, gJ_mk, cI_some, cV_some, cJ_some, cI_x, cV_x, cJ_x, uS_self, uS_ne, if_pos, if_neg, b01, b01n, ite_not, if_true, if_false, rI_d]
    · by_cases p2 : v + 0 ≤ n
      · simp (disch := omega) only [hk, hu, hI_n, hI_un, z_nat, em_d, zl, z_add, z_sub, z_mul, z_lt, z_eq, gI_mk, gJ_mk, cI_some, cV_some, cJ_some, cI_x, cV_x, cJ_x, uS_self, uS_ne, if_pos, if_neg, b01, b01n, ite_not, if_true, if_false, rI_d]
        rfl
      · simp (disch := omega) only [hk, hu, hI_n, hI_un, z_nat, em_d, zl, z_add, z_sub, z_mul, z_lt, z_eq, gI_mk, gJ_mk, cI_some, cV_some, cJ_some, cI_x, cV_x, cJ_x, uS_self, uS_ne, if_pos, if_neg, b01, b01n, ite_not, if_true, if_false]
        rw [e_X10_latest_37]
        simp (disch := omega) only [hk, hu, hI_n, hI_un, z_nat, em_d, zl, z_add, z_sub, z_mul, z_lt, z_eq, gI_mk, gJ_mk, cI_some, cV_some, cJ_some, cI_x, cV_x, cJ_x, uS_self, uS_ne, if_pos, if_neg, b01, b01n, ite_not, if_true, if_false, rI_d]
  | succ m ih =>
    intro T hm hW
    obtain ⟨T', g1, -, g3⟩ := m_soonOf (X := X) (d := d + 1) (w := w) (J := J) hL hE hv hW ht ho (h := h + ((m + 1 : Nat) : Int)) (by omega)
    have hr := soon_r cd (s := s) (h := h + ((m + 1 : Nat) : Int)) hE a5 a7 ht o
    have el : latD (fun h => soonF rd s (plainZ cd rd) nT nR t h o) h n (m + 1) = if ¬ soonF rd s (plainZ cd rd) nT nR t (h + ((m + 1 : Nat) : Int)) o = -1 ∧ soonF rd s (plainZ cd rd) nT nR t (h + ((m + 1 : Nat) : Int)) o + ((m + 1 : Nat) : Int) ≤ n then ((m + 1 : Nat) : Int) else latD (fun h => soonF rd s (plainZ cd rd) nT nR t h o) h n m := rfl
    have em : ((m + 1 : Nat) : Int) - 1 = (m : Int) := by omega
    rw [el]
    generalize soonF rd s (plainZ cd rd) nT nR t (h + ((m + 1 : Nat) : Int)) o = v at hr g1
    by_cases p : ¬ v = -1 ∧ v + ((m + 1 : Nat) : Int) ≤ n
    · rw [if_pos p]
      refine ⟨T', fun x hx => ?_, g3.1⟩
      obtain ⟨x, rfl⟩ : ∃ x', x = x' + 1 := ⟨x - 1, by omega⟩
      rw [e_X10_latest_37]
      simp (disch := omega) only [hk, hu, hI_n, hI_un, z_nat, em_d, zl, z_add, z_sub, z_mul, z_lt, z_eq, gI_mk, gJ_mk, cI_some, cV_some, cJ_some, cI_x, cV_x, cJ_x, uS_self, uS_ne, if_pos, if_neg, b01, b01n, ite_not, if_true, if_false]
      rw [g1]
      simp (disch := omega) only [hk, hu, hI_n, hI_un, z_nat, em_d, zl, z_add, z_sub, z_mul, z_lt, z_eq, gI_mk, gJ_mk, cI_some, cV_some, cJ_some, cI_x, cV_x, cJ_x, uS_self, uS_ne, if_pos, if_neg, b01, b01n, ite_not, if_true, if_false, rI_d]
    · rw [if_neg p]
      obtain ⟨S', k1, k2⟩ := ih T' (by omega) g3
      refine ⟨S', fun x hx => ?_, k2⟩
      obtain ⟨x, rfl⟩ : ∃ x', x = x' + 1 := ⟨x - 1, by omega⟩
      rw [e_X10_latest_37]
      simp (disch := omega) only [hk, hu, hI_n, hI_un, z_nat, em_d, zl, z_add, z_sub, z_mul, z_lt, z_eq, gI_mk, gJ_mk, cI_some, cV_some, cJ_some, cI_x, cV_x, cJ_x, uS_self, uS_ne, if_pos, if_neg, b01, b01n, ite_not, if_true, if_false]
      rw [g1]
      by_cases p1 : v = -1
      · simp (disch := omega) only [hk, hu, hI_n, hI_un, z_nat, em_d, zl, z_add, z_sub, z_mul, z_lt, z_eq, gI_mk, gJ_mk, cI_some, cV_some, cJ_some, cI_x, cV_x, cJ_x, uS_self, uS_ne, if_pos, if_neg, b01, b01n, ite_not, if_true, if_false, p1, em]
        exact k1 x (by omega)
      · simp (disch := omega) only [hk, hu, hI_n, hI_un, z_nat, em_d, zl, z_add, z_sub, z_mul, z_lt, z_eq, gI_mk, gJ_mk, cI_some, cV_some, cJ_some, cI_x, cV_x, cJ_x, uS_self, uS_ne, if_pos, if_neg, b01, b01n, ite_not, if_true, if_false, em]
        exact k1 x (by omega)
theorem m_latest (hL : LdP S nT nR nC rd) (hE : Ends nT nR rd) (hn : NwP nR nC S s) (hv : Sc nR nC s) (hc : CdP S cd) {t o h n : Int} (ht : 0 ≤ t ∧ t < nT) (ho : 0 ≤ o ∧ o < nT) (hh : 0 ≤ h ∧ h ≤ 5600) (hnn : 0 ≤ n ∧ n ≤ 200) : ∃ S', am_call X aP (d + 7) 231 [.ref 132, .int (zI t), .int (zI o), .int (zI h), .int (zI n)] (mkS w (hI S) J) = some (.inl (some (.int (zI (latD (fun h => soonF rd s (plainZ cd rd) nT nR t h o) h n n.toNat)))), (mkS w (hI S') J)) ∧ QuM S S' := by
  have hq0 := QuM_0 S
  obtain ⟨a1, a2, a3, a4, a5, a6, a7, a8, a9, a10, a11⟩ := id hL
  obtain ⟨S1, h1, h2, h3⟩ := m_takeP (X := X) (d := d + 4) (w := w) (J := J) (NwP_q hn hq0) a8 a10
  have hq1 := QuM_fr hq0 h3 (by decide) (by decide)
  obtain ⟨S2, h4, h5, h6⟩ := m_laysPlain (X := X) (d := d) (w := w) (J := J) (LdP_q hL hq1) (CdP_q hc hq1)
  have hW : Mw nR nC (plainZ cd rd) s S S2 := ⟨QuM_fr hq1 h6 (by decide) (by decide), ScP_fr h2 h6 (by decide), h5⟩
  obtain ⟨S3, g1, g2⟩ := ml_latest (X := X) (d := d) (w := w) (J := J) hL hE hv ht ho hh hnn n.toNat S2 (by omega) hW
  have en : (n.toNat : Int) = n := by omega
  rw [en] at g1
  refine ⟨S3, ?_, g2⟩
  rw [go_X10_latest, e_X10_latest_0, z_0, hu.1, m_isTown1 (LdP_q hL (QuM_0 S)) (uS_self _ _ _ _) ht]
  simp (disch := omega) only [hk, hu, hI_n, hI_un, z_nat, em_d, zl, z_add, z_sub, z_mul, z_lt, z_eq, gI_mk, gJ_mk, cI_some, cV_some, cJ_some, cI_x, cV_x, cJ_x, uS_self, uS_ne, if_pos, if_neg, b01, b01n, ite_not, if_true, if_false]
  rw [m_isTown1 (LdP_q hL (QuM_0 S)) (uS_self _ _ _ _) ho]
  simp (disch := omega) only [hk, hu, hI_n, hI_un, z_nat, em_d, zl, z_add, z_sub, z_mul, z_lt, z_eq, gI_mk, gJ_mk, cI_some, cV_some, cJ_some, cI_x, cV_x, cJ_x, uS_self, uS_ne, if_pos, if_neg, b01, b01n, ite_not, if_true, if_false, m_within]
  rw [m_may1 (uS_self _ _ _ _)]
  simp (disch := omega) only [hk, hu, hI_n, hI_un, z_nat, em_d, zl, z_add, z_sub, z_mul, z_lt, z_eq, gI_mk, gJ_mk, cI_some, cV_some, cJ_some, cI_x, cV_x, cJ_x, uS_self, uS_ne, if_pos, if_neg, b01, b01n, ite_not, if_true, if_false]
  rw [h1]
  simp (disch := omega) only [hk, hu, hI_n, hI_un, z_nat, em_d, zl, z_add, z_sub, z_mul, z_lt, z_eq, gI_mk, gJ_mk, cI_some, cV_some, cJ_some, cI_x, cV_x, cJ_x, uS_self, uS_ne, if_pos, if_neg, b01, b01n, ite_not, if_true, if_false]
  rw [h4]
  simp (disch := omega) only [hk, hu, hI_n, hI_un, z_nat, em_d, zl, z_add, z_sub, z_mul, z_lt, z_eq, gI_mk, gJ_mk, cI_some, cV_some, cJ_some, cI_x, cV_x, cJ_x, uS_self, uS_ne, if_pos, if_neg, b01, b01n, ite_not, if_true, if_false]
  exact g1 9999999 (by omega)
theorem m_latestN (hL : LdP S nT nR nC rd) {t o h n : Int} (htb : -2147483648 ≤ t ∧ t < 2147483648) (hob : -2147483648 ≤ o ∧ o < 2147483648) (hne : ¬ ((0 ≤ t ∧ t < nT) ∧ 0 ≤ o ∧ o < nT)) : am_call X aP (d + 7) 231 [.ref 132, .int (zI t), .int (zI o), .int (zI h), .int (zI n)] (mkS w (hI S) J) = some (.inl (some (.int (zI 0))), (mkS w (hI (mxN S)) J)) := by
  rw [go_X10_latest, e_X10_latest_0, z_0, hu.1]
  by_cases q : 0 ≤ t ∧ t < nT
  · rw [m_isTown1 (LdP_q hL (QuM_0 S)) (uS_self _ _ _ _) q]
    simp (disch := omega) only [hk, hu, hI_n, hI_un, z_nat, em_d, zl, z_add, z_sub, z_mul, z_lt, z_eq, gI_mk, gJ_mk, cI_some, cV_some, cJ_some, cI_x, cV_x, cJ_x, uS_self, uS_ne, if_pos, if_neg, b01, b01n, ite_not, if_true, if_false]
    rw [m_isTown0 (LdP_q hL (QuM_0 S)) (uS_self _ _ _ _) hob (fun z => hne ⟨q, z⟩)]
    simp (disch := omega) only [hk, hu, hI_n, hI_un, z_nat, em_d, zl, z_add, z_sub, z_mul, z_lt, z_eq, gI_mk, gJ_mk, cI_some, cV_some, cJ_some, cI_x, cV_x, cJ_x, uS_self, uS_ne, if_pos, if_neg, b01, b01n, ite_not, if_true, if_false, rI_d]
    rfl
  · rw [m_isTown0 (LdP_q hL (QuM_0 S)) (uS_self _ _ _ _) htb q]
    simp (disch := omega) only [hk, hu, hI_n, hI_un, z_nat, em_d, zl, z_add, z_sub, z_mul, z_lt, z_eq, gI_mk, gJ_mk, cI_some, cV_some, cJ_some, cI_x, cV_x, cJ_x, uS_self, uS_ne, if_pos, if_neg, b01, b01n, ite_not, if_true, if_false, rI_d]
    rfl
theorem m_latestB (hL : LdP S nT nR nC rd) {t o h n : Int} (ht : 0 ≤ t ∧ t < nT) (ho : 0 ≤ o ∧ o < nT) (hhb : -2147483648 ≤ h ∧ h < 2147483648) (hnb : -2147483648 ≤ n ∧ n < 2147483648) (hh : ¬ ((0 ≤ h ∧ h ≤ 5600) ∧ 0 ≤ n ∧ n ≤ 200)) : am_call X aP (d + 7) 231 [.ref 132, .int (zI t), .int (zI o), .int (zI h), .int (zI n)] (mkS w (hI S) J) = some (.inl (some (.int (zI 0))), (mkS w (hI (mxB S 2)) J)) := by
  rw [go_X10_latest, e_X10_latest_0, z_0, hu.1, m_isTown1 (LdP_q hL (QuM_0 S)) (uS_self _ _ _ _) ht]
  simp (disch := omega) only [hk, hu, hI_n, hI_un, z_nat, em_d, zl, z_add, z_sub, z_mul, z_lt, z_eq, gI_mk, gJ_mk, cI_some, cV_some, cJ_some, cI_x, cV_x, cJ_x, uS_self, uS_ne, if_pos, if_neg, b01, b01n, ite_not, if_true, if_false]
  rw [m_isTown1 (LdP_q hL (QuM_0 S)) (uS_self _ _ _ _) ho]
  by_cases q : 0 ≤ h ∧ h ≤ 5600
  · simp (disch := omega) only [hk, hu, hI_n, hI_un, z_nat, em_d, zl, z_add, z_sub, z_mul, z_lt, z_eq, gI_mk, gJ_mk, cI_some, cV_some, cJ_some, cI_x, cV_x, cJ_x, uS_self, uS_ne, if_pos, if_neg, b01, b01n, ite_not, if_true, if_false, m_within]
    rw [m_may0 (uS_self _ _ _ _) (by decide) (by decide)]
    simp (disch := omega) only [hk, hu, hI_n, hI_un, z_nat, em_d, zl, z_add, z_sub, z_mul, z_lt, z_eq, gI_mk, gJ_mk, cI_some, cV_some, cJ_some, cI_x, cV_x, cJ_x, uS_self, uS_ne, if_pos, if_neg, b01, b01n, ite_not, if_true, if_false, rI_d]
    rfl
  · simp (disch := omega) only [hk, hu, hI_n, hI_un, z_nat, em_d, zl, z_add, z_sub, z_mul, z_lt, z_eq, gI_mk, gJ_mk, cI_some, cV_some, cJ_some, cI_x, cV_x, cJ_x, uS_self, uS_ne, if_pos, if_neg, b01, b01n, ite_not, if_true, if_false, m_within]
    rw [m_may0 (uS_self _ _ _ _) (by decide) (by decide)]
    simp (disch := omega) only [hk, hu, hI_n, hI_un, z_nat, em_d, zl, z_add, z_sub, z_mul, z_lt, z_eq, gI_mk, gJ_mk, cI_some, cV_some, cJ_some, cI_x, cV_x, cJ_x, uS_self, uS_ne, if_pos, if_neg, b01, b01n, ite_not, if_true, if_false, rI_d]
    rfl
theorem m_day (hL : LdP S nT nR nC rd) (hE : Ends nT nR rd) (hn : NwP nR nC S s) (hv : Sc nR nC s) (hc : CdP S cd) (h50 : s 50 ≤ 5600) {t o p : Int} (ht : 0 ≤ t ∧ t < nT) (ho : 0 ≤ o ∧ o < nT) (hp : 0 ≤ p ∧ p ≤ 1) : ∃ S', am_call X aP (d + 7) 232 [.ref 132, .int (zI t), .int (zI o), .int (zI p)] (mkS w (hI S) J) = some (.inl (some (.int (zI (if p = 0 then (dayR (fun h => soonF rd s (plainZ cd rd) nT nR t h o) (s 50)).1 else (dayR (fun h => soonF rd s (plainZ cd rd) nT nR t h o) (s 50)).2)))), (mkS w (hI S') J)) ∧ QuM S S' := by
  have hq0 := QuM_0 S
  obtain ⟨a1, a2, a3, a4, a5, a6, a7, a8, a9, a10, a11⟩ := id hL
  obtain ⟨S1, h1, h2, h3⟩ := m_takeP (X := X) (d := d + 4) (w := w) (J := J) (NwP_q hn hq0) a8 a10
  have hq1 := QuM_fr hq0 h3 (by decide) (by decide)
  obtain ⟨S2, h4, h5, h6⟩ := m_laysPlain (X := X) (d := d) (w := w) (J := J) (LdP_q hL hq1) (CdP_q hc hq1)
  have hW : Mw nR nC (plainZ cd rd) s S S2 := ⟨QuM_fr hq1 h6 (by decide) (by decide), ScP_fr h2 h6 (by decide), h5⟩
  have t50 := hv.2.2.1
  have e50 := hW.2.1 50 (by unfold Vd; omega)
  obtain ⟨S3, ⟨q1, q2, q3⟩, q4⟩ := loopF (fun n k (a : Int × Int) T => aR X (d + 6) m_X10_day n 45 [some (.ref 132), some (.int (zI t)), some (.int (zI o)), some (.int (zI p)), some (.int (zI a.1)), some (.int (zI a.2)), some (.int (zI (((s 50 + 7) / 8 * 8)))), some (.int (zI k)), none] (0, 0) (mkS w (hI T) J)) (dayG (fun h => soonF rd s (plainZ cd rd) nT nR t h o) ((s 50 + 7) / 8)) (fun k a T => Mw nR nC (plainZ cd rd) s S T ∧ (-1 ≤ a.1 ∧ a.1 < 7) ∧ -1 ≤ a.2 ∧ a.2 ≤ 999) 7 2 (fun k a T k1 k2 hV => by
    obtain ⟨hW, ha1, ha2⟩ := hV
    obtain ⟨T', p1, -, p3⟩ := m_soonOf (X := X) (d := d + 1) (w := w) (J := J) hL hE hv hW ht ho (h := ((s 50 + 7) / 8 + k) * 8) (by omega)
    have hr := soon_r cd (s := s) (h := ((s 50 + 7) / 8 + k) * 8) hE a5 a7 ht o
    have eh : (s 50 + 7) / 8 * 8 + 8 * k = ((s 50 + 7) / 8 + k) * 8 := by omega
    have ed : dayOf (((s 50 + 7) / 8 + k) * 8) = ((s 50 + 7) / 8 + k) % 7 := by show ((s 50 + 7) / 8 + k) * 8 / 8 % 7 = _; omega
    have hd := fun d => m_dayOf (X := X) (d := d) (w := w) (S := T') (J := J) (h := ((s 50 + 7) / 8 + k) * 8) (by omega)
    simp only [dayG]
    generalize soonF rd s (plainZ cd rd) nT nR t (((s 50 + 7) / 8 + k) * 8) o = v at p1 hr
    refine ⟨T', ⟨p3, ?_⟩, fun n hn => ?_⟩
    · split
      · exact ⟨by show -1 ≤ ((s 50 + 7) / 8 + k) % 7 ∧ ((s 50 + 7) / 8 + k) % 7 < 7; omega, hr⟩
      · exact ⟨ha1, ha2⟩
    · obtain ⟨n, rfl⟩ : ∃ n', n = n' + 2 := ⟨n - 2, by omega⟩
      by_cases r1 : ¬ v = -1 ∧ (a.2 = -1 ∨ v < a.2)
      · refine ⟨n, by omega, ?_⟩
        rw [if_pos r1]
        show aR X (d + 6) m_X10_day (n + 1 + 1) 45 [some (.ref 132), some (.int (zI t)), some (.int (zI o)), some (.int (zI p)), some (.int (zI a.1)), some (.int (zI a.2)), some (.int (zI (((s 50 + 7) / 8 * 8)))), some (.int (zI k)), none] (0, 0) (mkS w (hI T) J) = aR X (d + 6) m_X10_day n 45 [some (.ref 132), some (.int (zI t)), some (.int (zI o)), some (.int (zI p)), some (.int (zI ((((s 50 + 7) / 8 + k) % 7)))), some (.int (zI v)), some (.int (zI (((s 50 + 7) / 8 * 8)))), some (.int (zI ((k + 1)))), none] (0, 0) (mkS w (hI T') J)
        obtain ⟨r1, r2⟩ := r1
        rw [e_X10_day_45]
        simp (disch := omega) only [hk, hu, hI_n, hI_un, z_nat, em_d, zl, z_add, z_sub, z_mul, z_lt, z_eq, gI_mk, gJ_mk, cI_some, cV_some, cJ_some, cI_x, cV_x, cJ_x, uS_self, uS_ne, if_pos, if_neg, b01, b01n, ite_not, if_true, if_false, eh]
        rw [p1]
        rcases r2 with r2 | r2
        · simp (disch := omega) only [hk, hu, hI_n, hI_un, z_nat, em_d, zl, z_add, z_sub, z_mul, z_lt, z_eq, gI_mk, gJ_mk, cI_some, cV_some, cJ_some, cI_x, cV_x, cJ_x, uS_self, uS_ne, if_pos, if_neg, b01, b01n, ite_not, if_true, if_false, r2]
          rw [e_X10_day_68]
          simp (disch := omega) only [hk, hu, hI_n, hI_un, z_nat, em_d, zl, z_add, z_sub, z_mul, z_lt, z_eq, gI_mk, gJ_mk, cI_some, cV_some, cJ_some, cI_x, cV_x, cJ_x, uS_self, uS_ne, if_pos, if_neg, b01, b01n, ite_not, if_true, if_false, eh]
          rw [hd, ed]
          simp (disch := omega) only [hk, hu, hI_n, hI_un, z_nat, em_d, zl, z_add, z_sub, z_mul, z_lt, z_eq, gI_mk, gJ_mk, cI_some, cV_some, cJ_some, cI_x, cV_x, cJ_x, uS_self, uS_ne, if_pos, if_neg, b01, b01n, ite_not, if_true, if_false]
        · by_cases r3 : a.2 = -1
          · exact absurd r2 (by omega)
          · simp (disch := omega) only [hk, hu, hI_n, hI_un, z_nat, em_d, zl, z_add, z_sub, z_mul, z_lt, z_eq, gI_mk, gJ_mk, cI_some, cV_some, cJ_some, cI_x, cV_x, cJ_x, uS_self, uS_ne, if_pos, if_neg, b01, b01n, ite_not, if_true, if_false]
            rw [e_X10_day_68]
            simp (disch := omega) only [hk, hu, hI_n, hI_un, z_nat, em_d, zl, z_add, z_sub, z_mul, z_lt, z_eq, gI_mk, gJ_mk, cI_some, cV_some, cJ_some, cI_x, cV_x, cJ_x, uS_self, uS_ne, if_pos, if_neg, b01, b01n, ite_not, if_true, if_false, eh]
            rw [hd, ed]
            simp (disch := omega) only [hk, hu, hI_n, hI_un, z_nat, em_d, zl, z_add, z_sub, z_mul, z_lt, z_eq, gI_mk, gJ_mk, cI_some, cV_some, cJ_some, cI_x, cV_x, cJ_x, uS_self, uS_ne, if_pos, if_neg, b01, b01n, ite_not, if_true, if_false]
      · refine ⟨n + 1, by omega, ?_⟩
        rw [if_neg r1]
        show aR X (d + 6) m_X10_day (n + 1 + 1) 45 [some (.ref 132), some (.int (zI t)), some (.int (zI o)), some (.int (zI p)), some (.int (zI a.1)), some (.int (zI a.2)), some (.int (zI (((s 50 + 7) / 8 * 8)))), some (.int (zI k)), none] (0, 0) (mkS w (hI T) J) = aR X (d + 6) m_X10_day (n + 1) 45 [some (.ref 132), some (.int (zI t)), some (.int (zI o)), some (.int (zI p)), some (.int (zI a.1)), some (.int (zI a.2)), some (.int (zI (((s 50 + 7) / 8 * 8)))), some (.int (zI ((k + 1)))), none] (0, 0) (mkS w (hI T') J)
        rw [e_X10_day_45]
        simp (disch := omega) only [hk, hu, hI_n, hI_un, z_nat, em_d, zl, z_add, z_sub, z_mul, z_lt, z_eq, gI_mk, gJ_mk, cI_some, cV_some, cJ_some, cI_x, cV_x, cJ_x, uS_self, uS_ne, if_pos, if_neg, b01, b01n, ite_not, if_true, if_false, eh]
        rw [p1]
        by_cases r2 : v = -1
        · simp (disch := omega) only [hk, hu, hI_n, hI_un, z_nat, em_d, zl, z_add, z_sub, z_mul, z_lt, z_eq, gI_mk, gJ_mk, cI_some, cV_some, cJ_some, cI_x, cV_x, cJ_x, uS_self, uS_ne, if_pos, if_neg, b01, b01n, ite_not, if_true, if_false, r2]
        · have r3 : ¬ a.2 = -1 := fun z => r1 ⟨r2, Or.inl z⟩
          have r4 : ¬ v < a.2 := fun z => r1 ⟨r2, Or.inr z⟩
          simp (disch := omega) only [hk, hu, hI_n, hI_un, z_nat, em_d, zl, z_add, z_sub, z_mul, z_lt, z_eq, gI_mk, gJ_mk, cI_some, cV_some, cJ_some, cI_x, cV_x, cJ_x, uS_self, uS_ne, if_pos, if_neg, b01, b01n, ite_not, if_true, if_false]) 7 0 (-1, -1) S2 (by omega) (by omega) ⟨hW, by decide, by decide⟩
  obtain ⟨n1, k2, k3⟩ := q4 9999999 (by omega)
  obtain ⟨n1, rfl⟩ : ∃ n', n1 = n' + 1 := ⟨n1 - 1, by omega⟩
  have k3 : aR X (d + 6) m_X10_day 9999999 45 [some (.ref 132), some (.int (zI t)), some (.int (zI o)), some (.int (zI p)), some (.int (zI ((-1)))), some (.int (zI ((-1)))), some (.int (zI (((s 50 + 7) / 8 * 8)))), some (.int (zI 0)), none] (0, 0) (mkS w (hI S2) J) = aR X (d + 6) m_X10_day (n1 + 1) 45 [some (.ref 132), some (.int (zI t)), some (.int (zI o)), some (.int (zI p)), some (.int (zI ((dayR (fun h => soonF rd s (plainZ cd rd) nT nR t h o) (s 50)).1))), some (.int (zI ((dayR (fun h => soonF rd s (plainZ cd rd) nT nR t h o) (s 50)).2))), some (.int (zI (((s 50 + 7) / 8 * 8)))), some (.int (zI 7)), none] (0, 0) (mkS w (hI S3) J) := k3
  generalize dayR (fun h => soonF rd s (plainZ cd rd) nT nR t h o) (s 50) = b at k3
  have e7 : s 50 + 8 - 1 = s 50 + 7 := by omega
  refine ⟨S3, ?_, q1.1⟩
  rw [go_X10_day, e_X10_day_0, z_0, hu.1, m_isTown1 (LdP_q hL (QuM_0 S)) (uS_self _ _ _ _) ht]
  simp (disch := omega) only [hk, hu, hI_n, hI_un, z_nat, em_d, zl, z_add, z_sub, z_mul, z_lt, z_eq, gI_mk, gJ_mk, cI_some, cV_some, cJ_some, cI_x, cV_x, cJ_x, uS_self, uS_ne, if_pos, if_neg, b01, b01n, ite_not, if_true, if_false]
  rw [m_isTown1 (LdP_q hL (QuM_0 S)) (uS_self _ _ _ _) ho]
  simp (disch := omega) only [hk, hu, hI_n, hI_un, z_nat, em_d, zl, z_add, z_sub, z_mul, z_lt, z_eq, gI_mk, gJ_mk, cI_some, cV_some, cJ_some, cI_x, cV_x, cJ_x, uS_self, uS_ne, if_pos, if_neg, b01, b01n, ite_not, if_true, if_false, m_within]
  rw [m_may1 (uS_self _ _ _ _)]
  simp (disch := omega) only [hk, hu, hI_n, hI_un, z_nat, em_d, zl, z_add, z_sub, z_mul, z_lt, z_eq, gI_mk, gJ_mk, cI_some, cV_some, cJ_some, cI_x, cV_x, cJ_x, uS_self, uS_ne, if_pos, if_neg, b01, b01n, ite_not, if_true, if_false]
  rw [h1]
  simp (disch := omega) only [hk, hu, hI_n, hI_un, z_nat, em_d, zl, z_add, z_sub, z_mul, z_lt, z_eq, gI_mk, gJ_mk, cI_some, cV_some, cJ_some, cI_x, cV_x, cJ_x, uS_self, uS_ne, if_pos, if_neg, b01, b01n, ite_not, if_true, if_false]
  rw [h4]
  simp (disch := omega) only [hk, hu, hI_n, hI_un, z_nat, em_d, zl, z_add, z_sub, z_mul, z_lt, z_eq, gI_mk, gJ_mk, cI_some, cV_some, cJ_some, cI_x, cV_x, cJ_x, uS_self, uS_ne, if_pos, if_neg, b01, b01n, ite_not, if_true, if_false, e50, z_div, e7]
  rw [k3, e_X10_day_45]
  by_cases p0 : p = 0
  · simp (disch := omega) only [hk, hu, hI_n, hI_un, z_nat, em_d, zl, z_add, z_sub, z_mul, z_lt, z_eq, gI_mk, gJ_mk, cI_some, cV_some, cJ_some, cI_x, cV_x, cJ_x, uS_self, uS_ne, if_pos, if_neg, b01, b01n, ite_not, if_true, if_false, p0, rI_d]
  · simp (disch := omega) only [hk, hu, hI_n, hI_un, z_nat, em_d, zl, z_add, z_sub, z_mul, z_lt, z_eq, gI_mk, gJ_mk, cI_some, cV_some, cJ_some, cI_x, cV_x, cJ_x, uS_self, uS_ne, if_pos, if_neg, b01, b01n, ite_not, if_true, if_false, rI_d]
theorem m_dayN (hL : LdP S nT nR nC rd) {t o h : Int} (htb : -2147483648 ≤ t ∧ t < 2147483648) (hob : -2147483648 ≤ o ∧ o < 2147483648) (hne : ¬ ((0 ≤ t ∧ t < nT) ∧ 0 ≤ o ∧ o < nT)) : am_call X aP (d + 7) 232 [.ref 132, .int (zI t), .int (zI o), .int (zI h)] (mkS w (hI S) J) = some (.inl (some (.int (zI 0))), (mkS w (hI (mxN S)) J)) := by
  rw [go_X10_day, e_X10_day_0, z_0, hu.1]
  by_cases q : 0 ≤ t ∧ t < nT
  · rw [m_isTown1 (LdP_q hL (QuM_0 S)) (uS_self _ _ _ _) q]
    simp (disch := omega) only [hk, hu, hI_n, hI_un, z_nat, em_d, zl, z_add, z_sub, z_mul, z_lt, z_eq, gI_mk, gJ_mk, cI_some, cV_some, cJ_some, cI_x, cV_x, cJ_x, uS_self, uS_ne, if_pos, if_neg, b01, b01n, ite_not, if_true, if_false]
    rw [m_isTown0 (LdP_q hL (QuM_0 S)) (uS_self _ _ _ _) hob (fun z => hne ⟨q, z⟩)]
    simp (disch := omega) only [hk, hu, hI_n, hI_un, z_nat, em_d, zl, z_add, z_sub, z_mul, z_lt, z_eq, gI_mk, gJ_mk, cI_some, cV_some, cJ_some, cI_x, cV_x, cJ_x, uS_self, uS_ne, if_pos, if_neg, b01, b01n, ite_not, if_true, if_false, rI_d]
    rfl
  · rw [m_isTown0 (LdP_q hL (QuM_0 S)) (uS_self _ _ _ _) htb q]
    simp (disch := omega) only [hk, hu, hI_n, hI_un, z_nat, em_d, zl, z_add, z_sub, z_mul, z_lt, z_eq, gI_mk, gJ_mk, cI_some, cV_some, cJ_some, cI_x, cV_x, cJ_x, uS_self, uS_ne, if_pos, if_neg, b01, b01n, ite_not, if_true, if_false, rI_d]
    rfl
theorem m_dayB (hL : LdP S nT nR nC rd) {t o h : Int} (ht : 0 ≤ t ∧ t < nT) (ho : 0 ≤ o ∧ o < nT) (hhb : -2147483648 ≤ h ∧ h < 2147483648) (hh : ¬ (0 ≤ h ∧ h ≤ 1)) : am_call X aP (d + 7) 232 [.ref 132, .int (zI t), .int (zI o), .int (zI h)] (mkS w (hI S) J) = some (.inl (some (.int (zI 0))), (mkS w (hI (mxB S 2)) J)) := by
  rw [go_X10_day, e_X10_day_0, z_0, hu.1, m_isTown1 (LdP_q hL (QuM_0 S)) (uS_self _ _ _ _) ht]
  simp (disch := omega) only [hk, hu, hI_n, hI_un, z_nat, em_d, zl, z_add, z_sub, z_mul, z_lt, z_eq, gI_mk, gJ_mk, cI_some, cV_some, cJ_some, cI_x, cV_x, cJ_x, uS_self, uS_ne, if_pos, if_neg, b01, b01n, ite_not, if_true, if_false]
  rw [m_isTown1 (LdP_q hL (QuM_0 S)) (uS_self _ _ _ _) ho]
  simp (disch := omega) only [hk, hu, hI_n, hI_un, z_nat, em_d, zl, z_add, z_sub, z_mul, z_lt, z_eq, gI_mk, gJ_mk, cI_some, cV_some, cJ_some, cI_x, cV_x, cJ_x, uS_self, uS_ne, if_pos, if_neg, b01, b01n, ite_not, if_true, if_false, m_within]
  rw [m_may0 (uS_self _ _ _ _) (by decide) (by decide)]
  simp (disch := omega) only [hk, hu, hI_n, hI_un, z_nat, em_d, zl, z_add, z_sub, z_mul, z_lt, z_eq, gI_mk, gJ_mk, cI_some, cV_some, cJ_some, cI_x, cV_x, cJ_x, uS_self, uS_ne, if_pos, if_neg, b01, b01n, ite_not, if_true, if_false, rI_d]
  rfl
theorem m_farthest (hL : LdP S nT nR nC rd) (hE : Ends nT nR rd) (hn : NwP nR nC S s) (hv : Sc nR nC s) (hc : CdP S cd) (h50 : s 50 ≤ 5600) {p : Int} (hp : 0 ≤ p ∧ p ≤ 2) : ∃ S', am_call X aP (d + 7) 233 [.ref 132, .int (zI p)] (mkS w (hI S) J) = some (.inl (some (.int (zI (if p = 0 then (farR (fun a => soonF rd s (plainZ cd rd) nT nR a (s 50)) nT).1 else if p = 1 then (farR (fun a => soonF rd s (plainZ cd rd) nT nR a (s 50)) nT).2.1 else (farR (fun a => soonF rd s (plainZ cd rd) nT nR a (s 50)) nT).2.2)))), (mkS w (hI S') J)) ∧ QuM S S' := by
  have hq0 := QuM_0 S
  obtain ⟨a1, a2, a3, a4, a5, a6, a7, a8, a9, a10, a11⟩ := id hL
  obtain ⟨S1, h1, h2, h3⟩ := m_takeP (X := X) (d := d + 4) (w := w) (J := J) (NwP_q hn hq0) a8 a10
  have hq1 := QuM_fr hq0 h3 (by decide) (by decide)
  obtain ⟨S2, h4, h5, h6⟩ := m_laysPlain (X := X) (d := d) (w := w) (J := J) (LdP_q hL hq1) (CdP_q hc hq1)
  have hW : Mw nR nC (plainZ cd rd) s S S2 := ⟨QuM_fr hq1 h6 (by decide) (by decide), ScP_fr h2 h6 (by decide), h5⟩
  have t50 := hv.2.2.1
  obtain ⟨S3, ⟨q1, q2⟩, q4⟩ := loopF (fun n k (a : Int × Int × Int) T => aR X (d + 6) m_X10_farthest n 26 [some (.ref 132), some (.int (zI p)), some (.int (zI a.1)), some (.int (zI a.2.1)), some (.int (zI a.2.2)), some (.int (zI k)), none] (0, 0) (mkS w (hI T) J)) (fun a x => fold (farG (soonF rd s (plainZ cd rd) nT nR a (s 50)) a) nT.toNat 0 x) (fun k a T => Mw nR nC (plainZ cd rd) s S T ∧ (-1 ≤ a.1 ∧ a.1 < nT) ∧ (-1 ≤ a.2.1 ∧ a.2.1 < nT) ∧ -1 ≤ a.2.2 ∧ a.2.2 ≤ 999) nT 9 (fun k a T k1 k2 hV => by
    obtain ⟨hW, ha⟩ := hV
    obtain ⟨T', p1, p2, p3⟩ := m_lays (X := X) (d := d + 2) (w := w) (J := J) hL hv hW (t := k) (h := s 50) ⟨k1, k2⟩ (by omega)
    have hr := soon_r cd (s := s) (h := s 50) hE a5 a7 ⟨k1, k2⟩
    have t6 := (LdP_q hL hW.1).1
    have t6' := (LdP_q hL p3.1).1
    have t8 := hW.2.1 50 (by unfold Vd; omega)
    generalize soonF rd s (plainZ cd rd) nT nR k (s 50) = D at p2 hr
    obtain ⟨z1, z2⟩ := loopG (fun n b (x : Int × Int × Int) => aR X (d + 6) m_X10_farthest n 39 [some (.ref 132), some (.int (zI p)), some (.int (zI x.1)), some (.int (zI x.2.1)), some (.int (zI x.2.2)), some (.int (zI k)), some (.int (zI b))] (0, 0) (mkS w (hI T') J)) (farG D k) (fun b x => (-1 ≤ x.1 ∧ x.1 < nT) ∧ (-1 ≤ x.2.1 ∧ x.2.1 < nT) ∧ -1 ≤ x.2.2 ∧ x.2.2 ≤ 999) nT 1 (fun n b x b1 b2 hx hn1 => by
      obtain ⟨n, rfl⟩ : ∃ n', n = n' + 1 := ⟨n - 1, by omega⟩
      refine ⟨n, by omega, ?_⟩
      have e := p2 b b1 (by omega)
      have hd := hr b
      by_cases r : ¬ b = k ∧ x.2.2 < D b
      · have er : farG D k b x = (k, b, D b) := if_pos r
        rw [er]
        show aR X (d + 6) m_X10_farthest (n + 1) 39 [some (.ref 132), some (.int (zI p)), some (.int (zI x.1)), some (.int (zI x.2.1)), some (.int (zI x.2.2)), some (.int (zI k)), some (.int (zI b))] (0, 0) (mkS w (hI T') J) = aR X (d + 6) m_X10_farthest n 39 [some (.ref 132), some (.int (zI p)), some (.int (zI k)), some (.int (zI b)), some (.int (zI ((D b)))), some (.int (zI k)), some (.int (zI ((b + 1))))] (0, 0) (mkS w (hI T') J)
        have r1 : ¬ k = b := fun z => r.1 z.symm
        rw [e_X10_farthest_39]
        simp (disch := omega) only [hk, hu, hI_n, hI_un, z_nat, em_d, zl, z_add, z_sub, z_mul, z_lt, z_eq, gI_mk, gJ_mk, cI_some, cV_some, cJ_some, cI_x, cV_x, cJ_x, uS_self, uS_ne, if_pos, if_neg, b01, b01n, ite_not, if_true, if_false, t6', e]
      · have er : farG D k b x = x := if_neg r
        rw [er, e_X10_farthest_39]
        by_cases r1 : k = b
        · simp (disch := omega) only [hk, hu, hI_n, hI_un, z_nat, em_d, zl, z_add, z_sub, z_mul, z_lt, z_eq, gI_mk, gJ_mk, cI_some, cV_some, cJ_some, cI_x, cV_x, cJ_x, uS_self, uS_ne, if_pos, if_neg, b01, b01n, ite_not, if_true, if_false, t6', e]
        · have r2 : ¬ x.2.2 < D b := fun z => r ⟨fun y => r1 y.symm, z⟩
          simp (disch := omega) only [hk, hu, hI_n, hI_un, z_nat, em_d, zl, z_add, z_sub, z_mul, z_lt, z_eq, gI_mk, gJ_mk, cI_some, cV_some, cJ_some, cI_x, cV_x, cJ_x, uS_self, uS_ne, if_pos, if_neg, b01, b01n, ite_not, if_true, if_false, t6', e]) (fun b x b1 b2 hx => farG_r hr ⟨k1, k2⟩ ⟨b1, b2⟩ hx) nT.toNat 0 a (by omega) (by omega) ha
    refine ⟨T', ⟨p3, z1⟩, fun n hn9 => ?_⟩
    obtain ⟨n, rfl⟩ : ∃ n', n = n' + 1 := ⟨n - 1, by omega⟩
    obtain ⟨n1, y1, y2⟩ := z2 n (by omega)
    obtain ⟨n1, rfl⟩ : ∃ n', n1 = n' + 1 := ⟨n1 - 1, by omega⟩
    refine ⟨n1, by omega, ?_⟩
    show aR X (d + 6) m_X10_farthest (n + 1) 26 [some (.ref 132), some (.int (zI p)), some (.int (zI a.1)), some (.int (zI a.2.1)), some (.int (zI a.2.2)), some (.int (zI k)), none] (0, 0) (mkS w (hI T) J) = aR X (d + 6) m_X10_farthest n1 26 [some (.ref 132), some (.int (zI p)), some (.int (zI ((fold (farG D k) nT.toNat 0 a).1))), some (.int (zI ((fold (farG D k) nT.toNat 0 a).2.1))), some (.int (zI ((fold (farG D k) nT.toNat 0 a).2.2))), some (.int (zI ((k + 1)))), none] (0, 0) (mkS w (hI T') J)
    rw [e_X10_farthest_26]
    simp (disch := omega) only [hk, hu, hI_n, hI_un, z_nat, em_d, zl, z_add, z_sub, z_mul, z_lt, z_eq, gI_mk, gJ_mk, cI_some, cV_some, cJ_some, cI_x, cV_x, cJ_x, uS_self, uS_ne, if_pos, if_neg, b01, b01n, ite_not, if_true, if_false, t6, t8]
    rw [p1]
    simp (disch := omega) only [hk, hu, hI_n, hI_un, z_nat, em_d, zl, z_add, z_sub, z_mul, z_lt, z_eq, gI_mk, gJ_mk, cI_some, cV_some, cJ_some, cI_x, cV_x, cJ_x, uS_self, uS_ne, if_pos, if_neg, b01, b01n, ite_not, if_true, if_false]
    refine y2.trans ?_
    show aR X (d + 6) m_X10_farthest (n1 + 1) 39 [some (.ref 132), some (.int (zI p)), some (.int (zI ((fold (farG D k) nT.toNat 0 a).1))), some (.int (zI ((fold (farG D k) nT.toNat 0 a).2.1))), some (.int (zI ((fold (farG D k) nT.toNat 0 a).2.2))), some (.int (zI k)), some (.int (zI nT))] (0, 0) (mkS w (hI T') J) = _
    rw [e_X10_farthest_39]
    simp (disch := omega) only [hk, hu, hI_n, hI_un, z_nat, em_d, zl, z_add, z_sub, z_mul, z_lt, z_eq, gI_mk, gJ_mk, cI_some, cV_some, cJ_some, cI_x, cV_x, cJ_x, uS_self, uS_ne, if_pos, if_neg, b01, b01n, ite_not, if_true, if_false, t6']) nT.toNat 0 (-1, -1, -1) S2 (by omega) (by omega) ⟨hW, ⟨by decide, by show -1 < nT; omega⟩, ⟨by decide, by show -1 < nT; omega⟩, by decide⟩
  obtain ⟨n1, k2, k3⟩ := q4 9999999 (by omega)
  obtain ⟨n1, rfl⟩ : ∃ n', n1 = n' + 1 := ⟨n1 - 1, by omega⟩
  have t6 := (LdP_q hL q1.1).1
  refine ⟨S3, ?_, q1.1⟩
  have k3 : aR X (d + 6) m_X10_farthest 9999999 26 [some (.ref 132), some (.int (zI p)), some (.int (zI ((-1)))), some (.int (zI ((-1)))), some (.int (zI ((-1)))), some (.int (zI 0)), none] (0, 0) (mkS w (hI S2) J) = aR X (d + 6) m_X10_farthest (n1 + 1) 26 [some (.ref 132), some (.int (zI p)), some (.int (zI ((farR (fun a => soonF rd s (plainZ cd rd) nT nR a (s 50)) nT).1))), some (.int (zI ((farR (fun a => soonF rd s (plainZ cd rd) nT nR a (s 50)) nT).2.1))), some (.int (zI ((farR (fun a => soonF rd s (plainZ cd rd) nT nR a (s 50)) nT).2.2))), some (.int (zI nT)), none] (0, 0) (mkS w (hI S3) J) := k3
  rw [go_X10_farthest, e_X10_farthest_0, z_0, hu.1]
  simp (disch := omega) only [hk, hu, hI_n, hI_un, z_nat, em_d, zl, z_add, z_sub, z_mul, z_lt, z_eq, gI_mk, gJ_mk, cI_some, cV_some, cJ_some, cI_x, cV_x, cJ_x, uS_self, uS_ne, if_pos, if_neg, b01, b01n, ite_not, if_true, if_false, m_within]
  rw [m_may1 (uS_self _ _ _ _)]
  simp (disch := omega) only [hk, hu, hI_n, hI_un, z_nat, em_d, zl, z_add, z_sub, z_mul, z_lt, z_eq, gI_mk, gJ_mk, cI_some, cV_some, cJ_some, cI_x, cV_x, cJ_x, uS_self, uS_ne, if_pos, if_neg, b01, b01n, ite_not, if_true, if_false]
  rw [h1]
  simp (disch := omega) only [hk, hu, hI_n, hI_un, z_nat, em_d, zl, z_add, z_sub, z_mul, z_lt, z_eq, gI_mk, gJ_mk, cI_some, cV_some, cJ_some, cI_x, cV_x, cJ_x, uS_self, uS_ne, if_pos, if_neg, b01, b01n, ite_not, if_true, if_false]
  rw [h4]
  simp (disch := omega) only [hk, hu, hI_n, hI_un, z_nat, em_d, zl, z_add, z_sub, z_mul, z_lt, z_eq, gI_mk, gJ_mk, cI_some, cV_some, cJ_some, cI_x, cV_x, cJ_x, uS_self, uS_ne, if_pos, if_neg, b01, b01n, ite_not, if_true, if_false]
  rw [k3, e_X10_farthest_26]
  have : p = 0 ∨ p = 1 ∨ p = 2 := by omega
  rcases this with rfl | rfl | rfl <;> simp (disch := omega) only [hk, hu, hI_n, hI_un, z_nat, em_d, zl, z_add, z_sub, z_mul, z_lt, z_eq, gI_mk, gJ_mk, cI_some, cV_some, cJ_some, cI_x, cV_x, cJ_x, uS_self, uS_ne, if_pos, if_neg, b01, b01n, ite_not, if_true, if_false, t6, rI_d]
theorem m_farthestB {p : Int} (hpb : -2147483648 ≤ p ∧ p < 2147483648) (hh : ¬ (0 ≤ p ∧ p ≤ 2)) : am_call X aP (d + 7) 233 [.ref 132, .int (zI p)] (mkS w (hI S) J) = some (.inl (some (.int (zI 0))), (mkS w (hI (mxB S 1)) J)) := by
  rw [go_X10_farthest, e_X10_farthest_0, z_0, hu.1]
  simp (disch := omega) only [hk, hu, hI_n, hI_un, z_nat, em_d, zl, z_add, z_sub, z_mul, z_lt, z_eq, gI_mk, gJ_mk, cI_some, cV_some, cJ_some, cI_x, cV_x, cJ_x, uS_self, uS_ne, if_pos, if_neg, b01, b01n, ite_not, if_true, if_false, m_within]
  rw [m_may0 (uS_self _ _ _ _) (by decide) (by decide)]
  simp (disch := omega) only [hk, hu, hI_n, hI_un, z_nat, em_d, zl, z_add, z_sub, z_mul, z_lt, z_eq, gI_mk, gJ_mk, cI_some, cV_some, cJ_some, cI_x, cV_x, cJ_x, uS_self, uS_ne, if_pos, if_neg, b01, b01n, ite_not, if_true, if_false, rI_d]
  rfl
end MPB
