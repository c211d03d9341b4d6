/-! THE WAY: the reference; what both refuse -/
section MWA
variable {X : Nat × (Nat → Int32)} {d : Nat} {w : Bool × Bool × Bool} {S : Hp} {J : Nat → Nat → Int64} {nT nR nC : Int} {rd s : Int → Int} {cd : List (Int × Int)}
theorem by_tk {rd s pl D : Int → Int} {h r u x : Int} (hD : DR D) (hx : ¬ D x = -1) : (byF rd s pl h D r u = D x) ↔ (¬ D u = -1 ∧ D u < D x ∧ tk (rd (4 * r + 2)) (pl r) (s r) (h + D u) = D x - D u) := by
  have h1 := hD x
  have h2 := hD u
  have h3 := byF_r rd s pl h hD r u
  constructor
  · intro z
    rcases h3.2.2 with q | q
    · exact absurd (z ▸ q) hx
    · refine ⟨q.1, by omega, ?_⟩
      unfold byF at z
      rw [if_neg q.1] at z
      by_cases y : tk (rd (4 * r + 2)) (pl r) (s r) (h + D u) = -1 ∨ 999 < D u + tk (rd (4 * r + 2)) (pl r) (s r) (h + D u)
      · rw [if_pos y] at z
        exact absurd z.symm hx
      · rw [if_neg y] at z
        omega
  · rintro ⟨z1, z2, z3⟩
    unfold byF
    rw [if_neg z1, if_neg (by omega), z3]
    omega
theorem ml_lastRoad {T : Hp} (hL : LdP S nT nR nC rd) (hv : Sc nR nC s) (hW : Mw nR nC (plainZ cd rd) s S T) {D : Int → Int} (h154 : ∀ k, 0 ≤ k → k < 7 → T 154 k = D k) (hD : DR D) {x h : Int} (hx : 0 ≤ x ∧ x < 7) (hdx : ¬ D x = -1) (hh : 0 ≤ h ∧ h ≤ 6000) : ∀ (j : Nat) (k : Int) (n : Nat), k + j = nR → 0 ≤ k → j + 1 ≤ n → aR X (d + 3) m_X10_lastRoad n 2 [some (.ref 132), some (.int (zI x)), some (.int (zI h)), some (.int (zI k)), none] (0, 0) (mkS w (hI T) J) = some (.inl (some (.int (zI (srch (fun r => decide (goesF rd r x ∧ byF rd s (plainZ cd rd) h D r (othF rd r x) = D x)) j k)))), (mkS w (hI T) J))
  | 0, k, n, hk1, hk0, hn => by
    obtain ⟨n, rfl⟩ : ∃ n', n = n' + 1 := ⟨n - 1, by omega⟩
    obtain ⟨-, t7, -, -, -, -, a7, a8, -⟩ := LdP_q hL hW.1
    rw [e_X10_lastRoad_2]
    simp (disch := omega) only [hk, hu, hI_n, hI_un, z_nat, em_d, zl, z_add, z_sub, z_mul, z_lt, z_eq, gI_mk, gJ_mk, cI_some, cV_some, cJ_some, cI_x, cV_x, cJ_x, uS_self, uS_ne, if_pos, if_neg, b01, b01n, ite_not, if_true, if_false, t7]
    rfl
  | j + 1, k, n, hk1, hk0, hn => by
    obtain ⟨n, rfl⟩ : ∃ n', n = n' + 1 := ⟨n - 1, by omega⟩
    have hL1 := LdP_q hL hW.1
    obtain ⟨-, t7, -, -, -, -, a7, a8, -, -, a11⟩ := id hL1
    have ih := ml_lastRoad hL hv hW h154 hD hx hdx hh j (k + 1) n (by omega) (by omega) (by omega)
    have ho := othF_r a11 (t := x) (r := k) ⟨hk0, by omega⟩
    have htk := fun d => m_takenOf (X := X) (d := d) (w := w) (J := J) hL1 hW.2.1 (fun r r1 r2 => (Sc_w hv).1 r r1 r2) hW.2.2 (PL_z cd rd nR) (r := k) ⟨hk0, by omega⟩ (h := h + D (othF rd k x)) (m := 999)
    have hac := fun d => m_otherOf (X := X) (d := d) (w := w) (J := J) hL1 (r := k) (t := x) ⟨hk0, by omega⟩ (by omega)
    have hto := fun d => m_goesFrom (X := X) (d := d) (w := w) (J := J) hL1 (r := k) (t := x) ⟨hk0, by omega⟩ (by omega)
    have ex := h154 x hx.1 hx.2
    have eu := h154 _ ho.1 ho.2
    have hd1 := hD x
    have hd2 := hD (othF rd k x)
    have ek : tkM (rd (4 * k + 2)) (plainZ cd rd k) (s k) (h + D (othF rd k x)) (999 : Int).toNat = tk (rd (4 * k + 2)) (plainZ cd rd k) (s k) (h + D (othF rd k x)) := rfl
    have es : srch (fun r => decide (goesF rd r x ∧ byF rd s (plainZ cd rd) h D r (othF rd r x) = D x)) (j + 1) k = if decide (goesF rd k x ∧ byF rd s (plainZ cd rd) h D k (othF rd k x) = D x) = true then k else srch (fun r => decide (goesF rd r x ∧ byF rd s (plainZ cd rd) h D r (othF rd r x) = D x)) j (k + 1) := rfl
    have hb : (byF rd s (plainZ cd rd) h D k (othF rd k x) = D x) ↔ _ := by_tk hD hdx
    have htr := tkM_r (rd (4 * k + 2)) (plainZ cd rd k) (s k) (h + D (othF rd k x)) 999
    rw [show tkM (rd (4 * k + 2)) (plainZ cd rd k) (s k) (h + D (othF rd k x)) 999 = tk (rd (4 * k + 2)) (plainZ cd rd k) (s k) (h + D (othF rd k x)) from rfl] at htr
    simp only [ek] at htk
    generalize tk (rd (4 * k + 2)) (plainZ cd rd k) (s k) (h + D (othF rd k x)) = v at htk hb htr
    rw [e_X10_lastRoad_2]
    simp (disch := omega) only [hk, hu, hI_n, hI_un, z_nat, em_d, zl, z_add, z_sub, z_mul, z_lt, z_eq, gI_mk, gJ_mk, cI_some, cV_some, cJ_some, cI_x, cV_x, cJ_x, uS_self, uS_ne, if_pos, if_neg, b01, b01n, ite_not, if_true, if_false, t7]
    rw [hac]
    simp (disch := omega) only [hk, hu, hI_n, hI_un, z_nat, em_d, zl, z_add, z_sub, z_mul, z_lt, z_eq, gI_mk, gJ_mk, cI_some, cV_some, cJ_some, cI_x, cV_x, cJ_x, uS_self, uS_ne, if_pos, if_neg, b01, b01n, ite_not, if_true, if_false]
    rw [hto]
    by_cases p1 : goesF rd k x
    · rw [if_pos p1]
      by_cases p2 : D (othF rd k x) = -1
      · rw [es.trans (if_neg (fun z => (hb.mp (of_decide_eq_true z).2).1 p2))]
        simp (disch := omega) only [hk, hu, hI_n, hI_un, z_nat, em_d, zl, z_add, z_sub, z_mul, z_lt, z_eq, gI_mk, gJ_mk, cI_some, cV_some, cJ_some, cI_x, cV_x, cJ_x, uS_self, uS_ne, if_pos, if_neg, b01, b01n, ite_not, if_true, if_false, show (zI 1 = zI 0) = False from eq_false (by decide), eu, p2]
        exact ih
      · by_cases p3 : D (othF rd k x) < D x
        · by_cases p4 : v = D x - D (othF rd k x)
          · rw [es.trans (if_pos (decide_eq_true ⟨p1, hb.mpr ⟨p2, p3, p4⟩⟩))]
            simp (disch := omega) only [hk, hu, hI_n, hI_un, z_nat, em_d, zl, z_add, z_sub, z_mul, z_lt, z_eq, gI_mk, gJ_mk, cI_some, cV_some, cJ_some, cI_x, cV_x, cJ_x, uS_self, uS_ne, if_pos, if_neg, b01, b01n, ite_not, if_true, if_false, show (zI 1 = zI 0) = False from eq_false (by decide), eu, ex]
            rw [htk _ (by omega) (by omega)]
            simp (disch := omega) only [hk, hu, hI_n, hI_un, z_nat, em_d, zl, z_add, z_sub, z_mul, z_lt, z_eq, gI_mk, gJ_mk, cI_some, cV_some, cJ_some, cI_x, cV_x, cJ_x, uS_self, uS_ne, if_pos, if_neg, b01, b01n, ite_not, if_true, if_false, eu, ex, rI_d]
          · rw [es.trans (if_neg (fun z => p4 (hb.mp (of_decide_eq_true z).2).2.2))]
            simp (disch := omega) only [hk, hu, hI_n, hI_un, z_nat, em_d, zl, z_add, z_sub, z_mul, z_lt, z_eq, gI_mk, gJ_mk, cI_some, cV_some, cJ_some, cI_x, cV_x, cJ_x, uS_self, uS_ne, if_pos, if_neg, b01, b01n, ite_not, if_true, if_false, show (zI 1 = zI 0) = False from eq_false (by decide), eu, ex]
            rw [htk _ (by omega) (by omega)]
            simp (disch := omega) only [hk, hu, hI_n, hI_un, z_nat, em_d, zl, z_add, z_sub, z_mul, z_lt, z_eq, gI_mk, gJ_mk, cI_some, cV_some, cJ_some, cI_x, cV_x, cJ_x, uS_self, uS_ne, if_pos, if_neg, b01, b01n, ite_not, if_true, if_false, eu, ex]
            exact ih
        · rw [es.trans (if_neg (fun z => p3 (hb.mp (of_decide_eq_true z).2).2.1))]
          simp (disch := omega) only [hk, hu, hI_n, hI_un, z_nat, em_d, zl, z_add, z_sub, z_mul, z_lt, z_eq, gI_mk, gJ_mk, cI_some, cV_some, cJ_some, cI_x, cV_x, cJ_x, uS_self, uS_ne, if_pos, if_neg, b01, b01n, ite_not, if_true, if_false, show (zI 1 = zI 0) = False from eq_false (by decide), eu, ex]
          exact ih
    · rw [if_neg p1, es.trans (if_neg (fun z => p1 (of_decide_eq_true z).1))]
      simp (disch := omega) only [hk, hu, hI_n, hI_un, z_nat, em_d, zl, z_add, z_sub, z_mul, z_lt, z_eq, gI_mk, gJ_mk, cI_some, cV_some, cJ_some, cI_x, cV_x, cJ_x, uS_self, uS_ne, if_pos, if_neg, b01, b01n, ite_not, if_true, if_false]
      exact ih
theorem m_lastRoad {T : Hp} (hL : LdP S nT nR nC rd) (hv : Sc nR nC s) (hW : Mw nR nC (plainZ cd rd) s S T) {D : Int → Int} (h154 : ∀ k, 0 ≤ k → k < 7 → T 154 k = D k) (hD : DR D) {x h : Int} (hx : 0 ≤ x ∧ x < 7) (hdx : ¬ D x = -1) (hh : 0 ≤ h ∧ h ≤ 6000) : am_call X aP (d + 4) 229 [.ref 132, .int (zI x), .int (zI h)] (mkS w (hI T) J) = some (.inl (some (.int (zI (lastF rd s (plainZ cd rd) nR h D x)))), (mkS w (hI T) J)) := by
  have a7 := hL.2.2.2.2.2.2.1
  have a8 := hL.2.2.2.2.2.2.2.1
  have := ml_lastRoad (X := X) (d := d) (w := w) (J := J) hL hv hW h154 hD hx hdx hh nR.toNat 0 9999999 (by omega) (by omega) (by omega)
  unfold lastF
  rw [if_neg hdx, go_X10_lastRoad, e_X10_lastRoad_0, z_0]
  exact this
theorem ml_way {T : Hp} (hL : LdP S nT nR nC rd) (hE : Ends nT nR rd) (hv : Sc nR nC s) (hW : Mw nR nC (plainZ cd rd) s S T) {D : Int → Int} (h154 : ∀ k, 0 ≤ k → k < 7 → T 154 k = D k) {t h p : Int} (ht : 0 ≤ t ∧ t < nT) (hSI : SI rd s (plainZ cd rd) nT nR h t D) (hh : 0 ≤ h ∧ h ≤ 6000) (hp : 0 ≤ p ∧ p ≤ 2) : ∀ (j : Nat) (x : Int) (a : Int × Int × Int) (n : Nat), (0 ≤ x ∧ x < nT) → ¬ D x = -1 → nrr D nT x < j → 2 * j + 1 ≤ n → ((a.1 = 0 ∧ a.2.1 = -1 ∧ a.2.2 = -1) ∨ (1 ≤ a.1 ∧ a.1 + j ≤ 100 ∧ -1 ≤ a.2.1 ∧ a.2.1 < 100 ∧ 0 ≤ a.2.2 ∧ a.2.2 < 100)) → j ≤ 50 → aR X (d + 6) m_X10_way n 52 [some (.ref 132), some (.int (zI t)), none, some (.int (zI h)), some (.int (zI p)), some (.int (zI a.1)), some (.int (zI a.2.1)), some (.int (zI a.2.2)), some (.int (zI x))] (0, 0) (mkS w (hI T) J) = some (.inl (some (.int (zI (pick3 p (wayF rd s (plainZ cd rd) nR h D j x a))))), (mkS w (hI T) J))
  | 0, x, a, n, hx, hdx, hm, hn, ha, hj => by
    have := nrr_0 D nT x
    omega
  | j + 1, x, a, n, hx, hdx, hm, hn, ha, hj => by
    obtain ⟨n, rfl⟩ : ∃ n', n = n' + 1 := ⟨n - 1, by omega⟩
    have hL1 := LdP_q hL hW.1
    obtain ⟨-, t7, -, -, a5, a6, a7, a8, -, -, a11⟩ := id hL1
    have ew : wayF rd s (plainZ cd rd) nR h D (j + 1) x a = if lastF rd s (plainZ cd rd) nR h D x = -1 then a else wayF rd s (plainZ cd rd) nR h D j (othF rd (lastF rd s (plainZ cd rd) nR h D x) x) (a.1 + 1, lastF rd s (plainZ cd rd) nR h D x, if a.2.2 = -1 then lastF rd s (plainZ cd rd) nR h D x else a.2.2) := rfl
    rw [ew]
    by_cases e : x = t
    · subst e
      rw [if_pos (lastF_t hSI), e_X10_way_52]
      have : p = 0 ∨ p = 1 ∨ p = 2 := by omega
      unfold pick3
      rcases this with rfl | rfl | rfl <;> simp (disch := omega) only [hk, hu, hI_n, hI_un, z_nat, em_d, zl, z_add, z_sub, z_mul, z_lt, z_eq, gI_mk, gJ_mk, cI_some, cV_some, cJ_some, cI_x, cV_x, cJ_x, uS_self, uS_ne, if_pos, if_neg, b01, b01n, ite_not, if_true, if_false, rI_d]
    · obtain ⟨r, e1, e2, e3, e4, e5⟩ := lastF_s hE hSI hx e hdx
      have hlr := fun d => m_lastRoad (X := X) (d := d) (w := w) (J := J) hL hv hW h154 hSI.1 (x := x) (by omega) hdx hh
      have hac := fun d => m_otherOf (X := X) (d := d) (w := w) (J := J) hL1 (r := r) (t := x) e2 (by omega)
      have hl := nrr_lt e3 e4 e5
      simp only [e1] at hlr ⊢
      rw [if_neg (show ¬ r = -1 by omega), e_X10_way_52]
      simp (disch := omega) only [hk, hu, hI_n, hI_un, z_nat, em_d, zl, z_add, z_sub, z_mul, z_lt, z_eq, gI_mk, gJ_mk, cI_some, cV_some, cJ_some, cI_x, cV_x, cJ_x, uS_self, uS_ne, if_pos, if_neg, b01, b01n, ite_not, if_true, if_false]
      rw [hlr]
      rcases ha with ha | ha
      · have ih := ml_way (h := h) hL hE hv hW h154 ht hSI hh hp j (othF rd r x) (a.1 + 1, r, r) n e3 e4 (by omega) (by omega) (Or.inr (by show 1 ≤ a.1 + 1 ∧ a.1 + 1 + (j : Int) ≤ 100 ∧ -1 ≤ r ∧ r < 100 ∧ 0 ≤ r ∧ r < 100; omega)) (by omega)
        rw [if_pos ha.2.2]
        simp (disch := omega) only [hk, hu, hI_n, hI_un, z_nat, em_d, zl, z_add, z_sub, z_mul, z_lt, z_eq, gI_mk, gJ_mk, cI_some, cV_some, cJ_some, cI_x, cV_x, cJ_x, uS_self, uS_ne, if_pos, if_neg, b01, b01n, ite_not, if_true, if_false]
        rw [hac]
        simp (disch := omega) only [hk, hu, hI_n, hI_un, z_nat, em_d, zl, z_add, z_sub, z_mul, z_lt, z_eq, gI_mk, gJ_mk, cI_some, cV_some, cJ_some, cI_x, cV_x, cJ_x, uS_self, uS_ne, if_pos, if_neg, b01, b01n, ite_not, if_true, if_false]
        exact ih
      · have ih := ml_way (h := h) hL hE hv hW h154 ht hSI hh hp j (othF rd r x) (a.1 + 1, r, a.2.2) n e3 e4 (by omega) (by omega) (Or.inr (by show 1 ≤ a.1 + 1 ∧ a.1 + 1 + (j : Int) ≤ 100 ∧ -1 ≤ r ∧ r < 100 ∧ 0 ≤ a.2.2 ∧ a.2.2 < 100; omega)) (by omega)
        rw [if_neg (show ¬ a.2.2 = -1 by omega)]
        simp (disch := omega) only [hk, hu, hI_n, hI_un, z_nat, em_d, zl, z_add, z_sub, z_mul, z_lt, z_eq, gI_mk, gJ_mk, cI_some, cV_some, cJ_some, cI_x, cV_x, cJ_x, uS_self, uS_ne, if_pos, if_neg, b01, b01n, ite_not, if_true, if_false]
        rw [hac]
        simp (disch := omega) only [hk, hu, hI_n, hI_un, z_nat, em_d, zl, z_add, z_sub, z_mul, z_lt, z_eq, gI_mk, gJ_mk, cI_some, cV_some, cJ_some, cI_x, cV_x, cJ_x, uS_self, uS_ne, if_pos, if_neg, b01, b01n, ite_not, if_true, if_false]
        exact ih
theorem m_way (hL : LdP S nT nR nC rd) (hE : Ends nT nR rd) (hn : NwP nR nC S s) (hv : Sc nR nC s) (hc : CdP S cd) {t o h p : Int} (ht : 0 ≤ t ∧ t < nT) (ho : 0 ≤ o ∧ o < nT) (hh : 0 ≤ h ∧ h ≤ 5600) (hp : 0 ≤ p ∧ p ≤ 2) : ∃ S', am_call X aP (d + 7) 230 [.ref 132, .int (zI t), .int (zI o), .int (zI h), .int (zI p)] (mkS w (hI S) J) = some (.inl (some (.int (zI (pick3 p (wayR rd s (plainZ cd rd) nR h (soonF rd s (plainZ cd rd) nT nR t h) o))))), (mkS w (hI S') J)) ∧ QuM S S' := by
  have hq0 := QuM_0 S
  obtain ⟨a1, a2, a3, a4, a5, a6, a7, a8, a9, a10, a11⟩ := id hL
  obtain ⟨S1, h1, h2, h3⟩ := m_takeP (X := X) (d := d + 4) (w := w) (J := J) (NwP_q hn hq0) a8 a10
  have hq1 := QuM_fr hq0 h3 (by decide) (by decide)
  obtain ⟨S2, h4, h5, h6⟩ := m_laysPlain (X := X) (d := d) (w := w) (J := J) (LdP_q hL hq1) (CdP_q hc hq1)
  have hW : Mw nR nC (plainZ cd rd) s S S2 := ⟨QuM_fr hq1 h6 (by decide) (by decide), ScP_fr h2 h6 (by decide), h5⟩
  obtain ⟨S3, g1, g2, g3⟩ := m_soonOf (X := X) (d := d + 1) (w := w) (J := J) hL hE hv hW ht ho (h := h) (by omega)
  have hI := soon_SI (s := s) (pl := plainZ cd rd) (h := h) hE a5 a7 ht
  have hgo := fun hdx => ml_way (X := X) (d := d) (w := w) (J := J) hL hE hv g3 g2 ht hI (h := h) (by omega) hp 7 o (0, -1, -1) 9999999 ho hdx (nrr_7 _ ho a6) (by omega) (Or.inl ⟨rfl, rfl, rfl⟩) (by omega)
  have hr := soon_r cd (s := s) (h := h) hE a5 a7 ht o
  refine ⟨S3, ?_, g3.1⟩
  rw [go_X10_way, e_X10_way_0]
  simp only [zl, hu]
  rw [m_isTown1 (LdP_q hL (QuM_0 S)) (uS_self _ _ _ _) ht, cI_some, if_neg (by decide), mk_mk]
  rw [m_isTown1 (LdP_q hL (QuM_0 S)) (uS_self _ _ _ _) ho, cI_some, if_neg (by decide), mk_mk]
  rw [m_within (by omega) (by omega) (by omega), cI_some, ifw, if_pos hh, mk_mk]
  rw [m_within (by omega) (by omega) (by omega), cI_some, ifw, if_pos hp, mk_mk]
  rw [m_may1 (uS_self _ _ _ _), cI_some, if_neg (by decide), mk_mk, h1, cV_some, mk_mk, h4, cV_some, mk_mk, g1, cI_some, mk_mk]
  by_cases q : soonF rd s (plainZ cd rd) nT nR t h o = -1
  · have e : wayR rd s (plainZ cd rd) nR h (soonF rd s (plainZ cd rd) nT nR t h) o = (-1, -1, -1) := by
      unfold wayR
      have : lastF rd s (plainZ cd rd) nR h (soonF rd s (plainZ cd rd) nT nR t h) o = -1 := if_pos q
      rw [if_pos q]
      exact if_pos this
    rw [e]
    unfold pick3
    have : p = 0 ∨ p = 1 ∨ p = 2 := by omega
    rw [q, if_pos rfl]
    rcases this with rfl | rfl | rfl <;> rfl
  · have e : wayR rd s (plainZ cd rd) nR h (soonF rd s (plainZ cd rd) nT nR t h) o = wayF rd s (plainZ cd rd) nR h (soonF rd s (plainZ cd rd) nT nR t h) 7 o (0, -1, -1) := by
      unfold wayR
      rw [if_neg q]
    have hne : ¬ zI (soonF rd s (plainZ cd rd) nT nR t h o) = zI (-1) := by rw [z_eq (by omega) (by omega) (by omega) (by omega)]; exact q
    rw [e, if_neg hne]
    exact hgo q
theorem m_wayN (hL : LdP S nT nR nC rd) {t o h p : Int} (htb : -2147483648 ≤ t ∧ t < 2147483648) (hob : -2147483648 ≤ o ∧ o < 2147483648) (hne : ¬ ((0 ≤ t ∧ t < nT) ∧ 0 ≤ o ∧ o < nT)) : am_call X aP (d + 7) 230 [.ref 132, .int (zI t), .int (zI o), .int (zI h), .int (zI p)] (mkS w (hI S) J) = some (.inl (some (.int (zI 0))), (mkS w (hI (mxN S)) J)) := by
  rw [go_X10_way, e_X10_way_0]
  simp only [zl, hu]
  by_cases q : 0 ≤ t ∧ t < nT
  · rw [m_isTown1 (LdP_q hL (QuM_0 S)) (uS_self _ _ _ _) q, cI_some, if_neg (by decide), mk_mk]
    rw [m_isTown0 (LdP_q hL (QuM_0 S)) (uS_self _ _ _ _) hob (fun z => hne ⟨q, z⟩), cI_some, if_pos rfl, mk_mk]
    rfl
  · rw [m_isTown0 (LdP_q hL (QuM_0 S)) (uS_self _ _ _ _) htb q, cI_some, if_pos rfl, mk_mk]
    rfl
theorem m_wayB (hL : LdP S nT nR nC rd) {t o h n : Int} (ht : 0 ≤ t ∧ t < nT) (ho : 0 ≤ o ∧ o < nT) (hhb : -2147483648 ≤ h ∧ h < 2147483648) (hnb : -2147483648 ≤ n ∧ n < 2147483648) (hh : ¬ ((0 ≤ h ∧ h ≤ 5600) ∧ 0 ≤ n ∧ n ≤ 2)) : am_call X aP (d + 7) 230 [.ref 132, .int (zI t), .int (zI o), .int (zI h), .int (zI n)] (mkS w (hI S) J) = some (.inl (some (.int (zI 0))), (mkS w (hI (mxB S 2)) J)) := by
  rw [go_X10_way, e_X10_way_0]
  simp only [zl, hu]
  rw [m_isTown1 (LdP_q hL (QuM_0 S)) (uS_self _ _ _ _) ht, cI_some, if_neg (by decide), mk_mk]
  rw [m_isTown1 (LdP_q hL (QuM_0 S)) (uS_self _ _ _ _) ho, cI_some, if_neg (by decide), mk_mk]
  have hm := fun d => m_may0 (X := X) (d := d) (w := w) (J := J) (S := uS S 132 0 0) (uS_self _ _ _ _) (cd := 2) (k := 1) (by decide) (by decide)
  rw [m_within (by omega) (by omega) (by omega), cI_some, ifw, mk_mk]
  by_cases q : 0 ≤ h ∧ h ≤ 5600
  · rw [if_pos q, m_within (by omega) (by omega) (by omega), cI_some, ifw, mk_mk, if_neg (fun z => hh ⟨q, z⟩), hm, cI_some, if_pos rfl, mk_mk]
    rfl
  · rw [if_neg q, hm, cI_some, if_pos rfl, mk_mk]
    rfl
theorem c_wayN (hL : CL S (iL w.1) nT nR nC rd) {t o h n : Int} (hr : -2147483648 ≤ t ∧ t < 2147483648) (hr2 : -2147483648 ≤ o ∧ o < 2147483648) (hn : ¬ ((0 ≤ t ∧ t < nT) ∧ 0 ≤ o ∧ o < nT)) : am_call X aP (d + 5) 117 [.ref 0, .int (zI t), .int (zI o), .int (zI h), .int (zI n)] (mkS w (hI S) J) = some (.inr 1, (mkS w (hI (xnS S)) J)) := by
  rw [go_X9_way, e_X9_way_0]
  by_cases q : 0 ≤ t ∧ t < nT
  · simp (disch := omega) only [hk, hu, hI_n, hI_un, z_nat, em_d, zl, z_add, z_sub, z_mul, z_lt, z_eq, gI_mk, gJ_mk, cI_some, cV_some, cJ_some, cI_x, cV_x, cJ_x, uS_self, uS_ne, if_pos, if_neg, b01, b01n, ite_not, if_true, if_false, c_town1 hL q]
    rw [show 9999999 = 9999998 + 1 from rfl, e_X9_way_3]
    simp (disch := omega) only [hk, hu, hI_n, hI_un, z_nat, em_d, zl, z_add, z_sub, z_mul, z_lt, z_eq, gI_mk, gJ_mk, cI_some, cV_some, cJ_some, cI_x, cV_x, cJ_x, uS_self, uS_ne, if_pos, if_neg, b01, b01n, ite_not, if_true, if_false, c_town0 hL hr2 (fun z => hn ⟨q, z⟩), rX_d]
  · simp (disch := omega) only [hk, hu, hI_n, hI_un, z_nat, em_d, zl, z_add, z_sub, z_mul, z_lt, z_eq, gI_mk, gJ_mk, cI_some, cV_some, cJ_some, cI_x, cV_x, cJ_x, uS_self, uS_ne, if_pos, if_neg, b01, b01n, ite_not, if_true, if_false, c_town0 hL hr q, rX_d]
theorem c_wayB (hL : CL S (iL w.1) nT nR nC rd) {t o h n : Int} (ht : 0 ≤ t ∧ t < nT) (ho : 0 ≤ o ∧ o < nT) (hh : -2147483648 ≤ h ∧ h < 2147483648) (hh2 : -2147483648 ≤ n ∧ n < 2147483648) (hn : ¬ ((0 ≤ h ∧ h ≤ 5600) ∧ 0 ≤ n ∧ n ≤ 2)) : am_call X aP (d + 5) 117 [.ref 0, .int (zI t), .int (zI o), .int (zI h), .int (zI n)] (mkS w (hI S) J) = some (.inr 2, (mkS w (hI (xbS S)) J)) := by
  rw [go_X9_way, e_X9_way_0]
  simp (disch := omega) only [hk, hu, hI_n, hI_un, z_nat, em_d, zl, z_add, z_sub, z_mul, z_lt, z_eq, gI_mk, gJ_mk, cI_some, cV_some, cJ_some, cI_x, cV_x, cJ_x, uS_self, uS_ne, if_pos, if_neg, b01, b01n, ite_not, if_true, if_false, c_town1 hL ht]
  rw [show 9999999 = 9999998 + 1 from rfl, e_X9_way_3]
  simp (disch := omega) only [hk, hu, hI_n, hI_un, z_nat, em_d, zl, z_add, z_sub, z_mul, z_lt, z_eq, gI_mk, gJ_mk, cI_some, cV_some, cJ_some, cI_x, cV_x, cJ_x, uS_self, uS_ne, if_pos, if_neg, b01, b01n, ite_not, if_true, if_false, c_town1 hL ho]
  rw [show 9999998 = 9999997 + 1 from rfl, e_X9_way_6]
  by_cases q : 0 ≤ h ∧ h ≤ 5600
  · simp (disch := omega) only [hk, hu, hI_n, hI_un, z_nat, em_d, zl, z_add, z_sub, z_mul, z_lt, z_eq, gI_mk, gJ_mk, cI_some, cV_some, cJ_some, cI_x, cV_x, cJ_x, uS_self, uS_ne, if_pos, if_neg, b01, b01n, ite_not, if_true, if_false, c_within, c_req0, rX_d]
  · simp (disch := omega) only [hk, hu, hI_n, hI_un, z_nat, em_d, zl, z_add, z_sub, z_mul, z_lt, z_eq, gI_mk, gJ_mk, cI_some, cV_some, cJ_some, cI_x, cV_x, cJ_x, uS_self, uS_ne, if_pos, if_neg, b01, b01n, ite_not, if_true, if_false, c_within, c_req0, rX_d]
end MWA
