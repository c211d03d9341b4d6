/-! WAYS ASKED OF THE CLASS: lasts, soon, reach, day, farthest -/
def scD (v : Nat) : List Nat := [17, 18, 19, 20, 21, 22, 23, 24, 25, 97, 98, 99, v + 3, v + 4]
def dayG (F : Int → Int) (m8 : Int) (k : Int) (a : Int × Int) : Int × Int := if ¬ F ((m8 + k) * 8) = -1 ∧ (a.2 = -1 ∨ F ((m8 + k) * 8) < a.2) then ((m8 + k) % 7, F ((m8 + k) * 8)) else a
def dayR (F : Int → Int) (h : Int) : Int × Int := fold (dayG F ((h + 7) / 8)) 7 0 (-1, -1)
def farG (D : Int → Int) (a : Int) (b : Int) (x : Int × Int × Int) : Int × Int × Int := if ¬ b = a ∧ x.2.2 < D b then (a, b, D b) else x
def farR (F : Int → Int → Int) (nT : Int) : Int × Int × Int := fold (fun a x => fold (farG (F a) a) nT.toNat 0 x) nT.toNat 0 (-1, -1, -1)
def reachB (nT : Int) (D : Int → Int) (n : Int) : Nat := bits (fun x => decide (¬ D x = -1 ∧ D x ≤ n)) nT.toNat
theorem PL_z (cd : List (Int × Int)) (rd : Int → Int) (nR : Int) : PL nR (plainZ cd rd) := fun r _ _ => paceZ_r _ _
section CPB
variable {X : Nat × (Nat → Int32)} {d : Nat} {w : Bool × Bool × Bool} {S : Hp} {J : Nat → Nat → Int64} {nT nR nC : Int} {rd s : Int → Int} {cd : List (Int × Int)}
/-- what the ways rest on -/
def Wy (v : Nat) (nR : Int) (pl : Int → Int) (S T : Hp) : Prop := Fr (scD v) S T ∧ ∀ r, 0 ≤ r → r < nR → T 98 r = pl r
theorem scD_n (v : Nat) (hv : v = 114 ∨ v = 119) (l : Nat) (hl : l = 100 ∨ l = 107) : (∀ i, i ≤ 7 → ¬ 8 + i ∈ scD v) ∧ (∀ i, i ≤ 8 → ¬ l + i ∈ scD v) ∧ (∀ i, i ≤ 2 → ¬ v + i ∈ scD v) ∧ ¬ 8 ∈ scD v ∧ ¬ 9 ∈ scD v ∧ ¬ 0 ∈ scD v := by
  refine ⟨fun i hi => ?_, fun i hi => ?_, fun i hi => ?_, ?_, ?_, ?_⟩ <;> simp only [scD, List.mem_cons, List.not_mem_nil, or_false] <;> omega
theorem c_meas (hL : CL S (iL w.1) nT nR nC rd) (hc : CW S (iW w.2.1) cd) : ∃ S', am_call X aP (d + 4) 95 [.ref 97, .ref ((iL w.1)), .ref ((iW w.2.1))] (mkS w (hI S) J) = some (.inl none, (mkS w (hI S') J)) ∧ Wy (iW w.2.1) nR (plainZ cd rd) S S' := by
  obtain ⟨S', h1, h2, h3⟩ := c_measure (X := X) (d := d) (w := w) (J := J) hL hc
  refine ⟨S', h1, Fr_mono h3 ?_, h2⟩
  intro o ho
  simp only [scD, List.mem_cons, List.not_mem_nil, or_false] at ho ⊢
  omega
theorem c_sear {T : Hp} (hL : CL S (iL w.1) nT nR nC rd) (hE : Ends nT nR rd) (hs : CS nR nC S 8 s) (hv : Sc nR nC s) (hW : Wy (iW w.2.1) nR (plainZ cd rd) S T) {t h : Int} (ht : 0 ≤ t ∧ t < nT) (hh : 0 ≤ h ∧ h ≤ 6000) : ∃ T', am_call X aP (d + 4) 96 [.ref 97, .ref ((iL w.1)), .ref 8, .int (zI t), .int (zI h)] (mkS w (hI T) J) = some (.inl none, (mkS w (hI T') J)) ∧ (∀ x, 0 ≤ x → x < 7 → T' 99 x = soonF rd s (plainZ cd rd) nT nR t h x) ∧ Wy (iW w.2.1) nR (plainZ cd rd) S T' ∧ Fr [99] T T' := by
  have hn := scD_n (iW w.2.1) (iW_c _) (iL w.1) (iL_c _)
  have hL1 : CL T (iL w.1) nT nR nC rd := CL_fr hL hW.1 (fun i hi => hn.2.1 i (by omega))
  have hs1 : CS nR nC T (iS false) s := CS_fr (o := 8) hs hW.1 hn.1
  obtain ⟨T', h1, h2, h3⟩ := c_search (X := X) (d := d) (w := w) (J := J) (bs := false) hL1 hE hs1 (fun r r1 r2 => (Sc_w hv).1 r r1 r2) hW.2 (PL_z cd rd nR) ht hh
  refine ⟨T', h1, h2.2, ⟨Fr_tr hW.1 h3 (fun _ z => z) ?_, h2.1⟩, h3⟩
  intro o ho
  simp only [scD, List.mem_cons, List.not_mem_nil, or_false] at ho ⊢
  omega
theorem soon_r (cd : List (Int × Int)) {nT nR : Int} {rd s : Int → Int} {t h : Int} (hE : Ends nT nR rd) (hT : 0 ≤ nT) (hR : 0 ≤ nR) (ht : 0 ≤ t ∧ t < nT) : DR (soonF rd s (plainZ cd rd) nT nR t h) := (soon_SI hE hT hR ht).1
theorem c_lasts (hL : CL S (iL w.1) nT nR nC rd) (hE : Ends nT nR rd) (hs : CS nR nC S 8 s) (hv : Sc nR nC s) (hc : CW S (iW w.2.1) cd) {r h : Int} (hr : 0 ≤ r ∧ r < nR) (hh : 0 ≤ h ∧ h ≤ 5600) : ∃ S', am_call X aP (d + 4) 115 [.ref 0, .int (zI r), .int (zI h)] (mkS w (hI S) J) = some (.inl (some (.int (zI (tk (rd (4 * r + 2)) (plainZ cd rd r) (s r) h)))), (mkS w (hI S') J)) ∧ Fr (scD (iW w.2.1)) S S' := by
  have hw := iW_c w.2.1
  have hl := iL_c w.1
  obtain ⟨-, -, -, a4, -, -, a7, a8, -, -, a11⟩ := id hL
  obtain ⟨-, -, e3⟩ := a4 r hr.1 hr.2
  obtain ⟨-, -, -, -, -, l2⟩ := a11 r hr.1 hr.2
  obtain ⟨-, -, -, -, -, l1⟩ := hE r hr.1 hr.2
  have ho := (Sc_w hv).1 r hr.1 hr.2
  obtain ⟨S1, h1, h2⟩ := c_plain (X := X) (d := d) (w := w) (J := J) hL hc hr
  have e9 : S1 9 r = s r := by rw [h2 9 (by simp; omega)]; exact (hs.1 r hr.1 hr.2).1
  have ht := fun d => c_taken (X := X) (d := d) (w := w) (S := S1) (J := J) (L := rd (4 * r + 2)) (p := plainZ cd rd r) (off := s r) (h := h) ⟨l1, l2⟩ (paceZ_r _ _) ho (by omega)
  refine ⟨S1, ?_, Fr_mono h2 (by intro o ho; simp only [scD, List.mem_cons, List.not_mem_nil, or_false] at ho ⊢; omega)⟩
  rw [go_X9_lasts, e_X9_lasts_0]
  simp (disch := omega) only [hk, hu, hI_n, hI_un, z_nat, em_d, zl, z_add, z_sub, z_mul, z_lt, z_eq, gI_mk, gJ_mk, cI_some, cV_some, cJ_some, cI_x, cV_x, cJ_x, uS_self, uS_ne, if_pos, if_neg, b01, b01n, ite_not, if_true, if_false, c_road1 hL hr]
  rw [show 9999999 = 9999998 + 1 from rfl, e_X9_lasts_3]
  simp (disch := omega) only [hk, hu, hI_n, hI_un, z_nat, em_d, zl, z_add, z_sub, z_mul, z_lt, z_eq, gI_mk, gJ_mk, cI_some, cV_some, cJ_some, cI_x, cV_x, cJ_x, uS_self, uS_ne, if_pos, if_neg, b01, b01n, ite_not, if_true, if_false, c_within, c_req1]
  rw [show 9999998 = 9999997 + 1 from rfl, e_X9_lasts_9]
  simp (disch := omega) only [hk, hu, hI_n, hI_un, z_nat, em_d, zl, z_add, z_sub, z_mul, z_lt, z_eq, gI_mk, gJ_mk, cI_some, cV_some, cJ_some, cI_x, cV_x, cJ_x, uS_self, uS_ne, if_pos, if_neg, b01, b01n, ite_not, if_true, if_false, hLL, e3]
  rw [h1]
  simp (disch := omega) only [hk, hu, hI_n, hI_un, z_nat, em_d, zl, z_add, z_sub, z_mul, z_lt, z_eq, gI_mk, gJ_mk, cI_some, cV_some, cJ_some, cI_x, cV_x, cJ_x, uS_self, uS_ne, if_pos, if_neg, b01, b01n, ite_not, if_true, if_false, hLL, e9]
  rw [ht]
  simp (disch := omega) only [hk, hu, hI_n, hI_un, z_nat, em_d, zl, z_add, z_sub, z_mul, z_lt, z_eq, gI_mk, gJ_mk, cI_some, cV_some, cJ_some, cI_x, cV_x, cJ_x, uS_self, uS_ne, if_pos, if_neg, b01, b01n, ite_not, if_true, if_false, hLL, rI_d]
theorem c_lastsN (hL : CL S (iL w.1) nT nR nC rd) {r h : Int} (hr : -2147483648 ≤ r ∧ r < 2147483648) (hn : ¬ (0 ≤ r ∧ r < nR)) : am_call X aP (d + 4) 115 [.ref 0, .int (zI r), .int (zI h)] (mkS w (hI S) J) = some (.inr 1, (mkS w (hI (xnS S)) J)) := by
  rw [go_X9_lasts, e_X9_lasts_0]
  simp (disch := omega) only [hk, hu, hI_n, hI_un, z_nat, em_d, zl, z_add, z_sub, z_mul, z_lt, z_eq, gI_mk, gJ_mk, cI_some, cV_some, cJ_some, cI_x, cV_x, cJ_x, uS_self, uS_ne, if_pos, if_neg, b01, b01n, ite_not, if_true, if_false, c_road0 hL hr hn, rX_d]
theorem c_lastsB (hL : CL S (iL w.1) nT nR nC rd) {r h : Int} (hr : 0 ≤ r ∧ r < nR) (hh : -2147483648 ≤ h ∧ h < 2147483648) (hn : ¬ (0 ≤ h ∧ h ≤ 5600)) : am_call X aP (d + 4) 115 [.ref 0, .int (zI r), .int (zI h)] (mkS w (hI S) J) = some (.inr 2, (mkS w (hI (xbS S)) J)) := by
  rw [go_X9_lasts, e_X9_lasts_0]
  simp (disch := omega) only [hk, hu, hI_n, hI_un, z_nat, em_d, zl, z_add, z_sub, z_mul, z_lt, z_eq, gI_mk, gJ_mk, cI_some, cV_some, cJ_some, cI_x, cV_x, cJ_x, uS_self, uS_ne, if_pos, if_neg, b01, b01n, ite_not, if_true, if_false, c_road1 hL hr]
  rw [show 9999999 = 9999998 + 1 from rfl, e_X9_lasts_3]
  simp (disch := omega) only [hk, hu, hI_n, hI_un, z_nat, em_d, zl, z_add, z_sub, z_mul, z_lt, z_eq, gI_mk, gJ_mk, cI_some, cV_some, cJ_some, cI_x, cV_x, cJ_x, uS_self, uS_ne, if_pos, if_neg, b01, b01n, ite_not, if_true, if_false, c_within, c_req0, rX_d]
theorem c_soon (hL : CL S (iL w.1) nT nR nC rd) (hE : Ends nT nR rd) (hs : CS nR nC S 8 s) (hv : Sc nR nC s) (hc : CW S (iW w.2.1) cd) {t o h : Int} (ht : 0 ≤ t ∧ t < nT) (ho : 0 ≤ o ∧ o < nT) (hh : 0 ≤ h ∧ h ≤ 5600) : ∃ S', am_call X aP (d + 5) 116 [.ref 0, .int (zI t), .int (zI o), .int (zI h)] (mkS w (hI S) J) = some (.inl (some (.int (zI (soonF rd s (plainZ cd rd) nT nR t h o)))), (mkS w (hI S') J)) ∧ Fr (scD (iW w.2.1)) S S' := by
  have a6 := hL.2.2.2.2.2.1
  obtain ⟨S1, h1, h2⟩ := c_meas (X := X) (d := d) (w := w) (J := J) hL hc
  obtain ⟨S2, h3, h4, h5, -⟩ := c_sear (X := X) (d := d) (w := w) (J := J) hL hE hs hv h2 (t := t) (h := h) ht (by omega)
  have e := h4 o ho.1 (by omega)
  refine ⟨S2, ?_, h5.1⟩
  rw [go_X9_soon, e_X9_soon_0]
  simp (disch := omega) only [hk, hu, hI_n, hI_un, z_nat, em_d, zl, z_add, z_sub, z_mul, z_lt, z_eq, gI_mk, gJ_mk, cI_some, cV_some, cJ_some, cI_x, cV_x, cJ_x, uS_self, uS_ne, if_pos, if_neg, b01, b01n, ite_not, if_true, if_false, c_town1 hL ht]
  rw [show 9999999 = 9999998 + 1 from rfl, e_X9_soon_3]
  simp (disch := omega) only [hk, hu, hI_n, hI_un, z_nat, em_d, zl, z_add, z_sub, z_mul, z_lt, z_eq, gI_mk, gJ_mk, cI_some, cV_some, cJ_some, cI_x, cV_x, cJ_x, uS_self, uS_ne, if_pos, if_neg, b01, b01n, ite_not, if_true, if_false, c_town1 hL ho]
  rw [show 9999998 = 9999997 + 1 from rfl, e_X9_soon_6]
  simp (disch := omega) only [hk, hu, hI_n, hI_un, z_nat, em_d, zl, z_add, z_sub, z_mul, z_lt, z_eq, gI_mk, gJ_mk, cI_some, cV_some, cJ_some, cI_x, cV_x, cJ_x, uS_self, uS_ne, if_pos, if_neg, b01, b01n, ite_not, if_true, if_false, c_within, c_req1]
  rw [show 9999997 = 9999996 + 1 from rfl, e_X9_soon_12, h1]
  simp (disch := omega) only [hk, hu, hI_n, hI_un, z_nat, em_d, zl, z_add, z_sub, z_mul, z_lt, z_eq, gI_mk, gJ_mk, cI_some, cV_some, cJ_some, cI_x, cV_x, cJ_x, uS_self, uS_ne, if_pos, if_neg, b01, b01n, ite_not, if_true, if_false]
  rw [h3]
  simp (disch := omega) only [hk, hu, hI_n, hI_un, z_nat, em_d, zl, z_add, z_sub, z_mul, z_lt, z_eq, gI_mk, gJ_mk, cI_some, cV_some, cJ_some, cI_x, cV_x, cJ_x, uS_self, uS_ne, if_pos, if_neg, b01, b01n, ite_not, if_true, if_false, e, rI_d]
theorem c_soonN (hL : CL S (iL w.1) nT nR nC rd) {t o h : Int} (hr : -2147483648 ≤ t ∧ t < 2147483648) (hr2 : -2147483648 ≤ o ∧ o < 2147483648) (hn : ¬ ((0 ≤ t ∧ t < nT) ∧ 0 ≤ o ∧ o < nT)) : am_call X aP (d + 5) 116 [.ref 0, .int (zI t), .int (zI o), .int (zI h)] (mkS w (hI S) J) = some (.inr 1, (mkS w (hI (xnS S)) J)) := by
  rw [go_X9_soon, e_X9_soon_0]
  by_cases q : 0 ≤ t ∧ t < nT
  · simp (disch := omega) only [hk, hu, hI_n, hI_un, z_nat, em_d, zl, z_add, z_sub, z_mul, z_lt, z_eq, gI_mk, gJ_mk, cI_some, cV_some, cJ_some, cI_x, cV_x, cJ_x, uS_self, uS_ne, if_pos, if_neg, b01, b01n, ite_not, if_true, if_false, c_town1 hL q]
    rw [show 9999999 = 9999998 + 1 from rfl, e_X9_soon_3]
    simp (disch := omega) only [hk, hu, hI_n, hI_un, z_nat, em_d, zl, z_add, z_sub, z_mul, z_lt, z_eq, gI_mk, gJ_mk, cI_some, cV_some, cJ_some, cI_x, cV_x, cJ_x, uS_self, uS_ne, if_pos, if_neg, b01, b01n, ite_not, if_true, if_false, c_town0 hL hr2 (fun z => hn ⟨q, z⟩), rX_d]
  · simp (disch := omega) only [hk, hu, hI_n, hI_un, z_nat, em_d, zl, z_add, z_sub, z_mul, z_lt, z_eq, gI_mk, gJ_mk, cI_some, cV_some, cJ_some, cI_x, cV_x, cJ_x, uS_self, uS_ne, if_pos, if_neg, b01, b01n, ite_not, if_true, if_false, c_town0 hL hr q, rX_d]
theorem c_soonB (hL : CL S (iL w.1) nT nR nC rd) {t o h : Int} (ht : 0 ≤ t ∧ t < nT) (ho : 0 ≤ o ∧ o < nT) (hh : -2147483648 ≤ h ∧ h < 2147483648) (hn : ¬ (0 ≤ h ∧ h ≤ 5600)) : am_call X aP (d + 5) 116 [.ref 0, .int (zI t), .int (zI o), .int (zI h)] (mkS w (hI S) J) = some (.inr 2, (mkS w (hI (xbS S)) J)) := by
  rw [go_X9_soon, e_X9_soon_0]
  simp (disch := omega) only [hk, hu, hI_n, hI_un, z_nat, em_d, zl, z_add, z_sub, z_mul, z_lt, z_eq, gI_mk, gJ_mk, cI_some, cV_some, cJ_some, cI_x, cV_x, cJ_x, uS_self, uS_ne, if_pos, if_neg, b01, b01n, ite_not, if_true, if_false, c_town1 hL ht]
  rw [show 9999999 = 9999998 + 1 from rfl, e_X9_soon_3]
  simp (disch := omega) only [hk, hu, hI_n, hI_un, z_nat, em_d, zl, z_add, z_sub, z_mul, z_lt, z_eq, gI_mk, gJ_mk, cI_some, cV_some, cJ_some, cI_x, cV_x, cJ_x, uS_self, uS_ne, if_pos, if_neg, b01, b01n, ite_not, if_true, if_false, c_town1 hL ho]
  rw [show 9999998 = 9999997 + 1 from rfl, e_X9_soon_6]
  simp (disch := omega) only [hk, hu, hI_n, hI_un, z_nat, em_d, zl, z_add, z_sub, z_mul, z_lt, z_eq, gI_mk, gJ_mk, cI_some, cV_some, cJ_some, cI_x, cV_x, cJ_x, uS_self, uS_ne, if_pos, if_neg, b01, b01n, ite_not, if_true, if_false, c_within, c_req0, rX_d]
theorem c_reach (hL : CL S (iL w.1) nT nR nC rd) (hE : Ends nT nR rd) (hs : CS nR nC S 8 s) (hv : Sc nR nC s) (h50 : s 50 ≤ 5600) (hc : CW S (iW w.2.1) cd) {t n : Int} (ht : 0 ≤ t ∧ t < nT) (hh : 0 ≤ n ∧ n ≤ 200) : ∃ S', am_call X aP (d + 5) 135 [.ref 0, .int (zI t), .int (zI n)] (mkS w (hI S) J) = some (.inl (some (.int (zI ((reachB nT (soonF rd s (plainZ cd rd) nT nR t (s 50)) n : Nat))))), (mkS w (hI S') J)) ∧ Fr (scD (iW w.2.1)) S S' := by
  obtain ⟨a1, -, -, -, a5, a6, a7, -⟩ := id hL
  have t50 := hv.2.2.1
  have hn := scD_n (iW w.2.1) (iW_c _) (iL w.1) (iL_c _)
  obtain ⟨S1, h1, h2⟩ := c_meas (X := X) (d := d) (w := w) (J := J) hL hc
  have e50 : S1 8 8 = s 50 := by rw [h2.1 8 hn.2.2.2.1]; exact hs.2.2.1
  obtain ⟨S2, h3, h4, h5, -⟩ := c_sear (X := X) (d := d) (w := w) (J := J) hL hE hs hv h2 (t := t) (h := s 50) ht (by omega)
  have hD := soon_r cd (s := s) (h := s 50) hE a5 a7 ht
  have t6 : S2 (iL w.1) 6 = nT := by rw [h5.1 (iL w.1) (hn.2.1 0 (by omega))]; exact a1
  refine ⟨S2, ?_, h5.1⟩
  rw [go_X9_reach, e_X9_reach_0]
  simp (disch := omega) only [hk, hu, hI_n, hI_un, z_nat, em_d, zl, z_add, z_sub, z_mul, z_lt, z_eq, gI_mk, gJ_mk, cI_some, cV_some, cJ_some, cI_x, cV_x, cJ_x, uS_self, uS_ne, if_pos, if_neg, b01, b01n, ite_not, if_true, if_false, c_town1 hL ht]
  rw [show 9999999 = 9999998 + 1 from rfl, e_X9_reach_3]
  simp (disch := omega) only [hk, hu, hI_n, hI_un, z_nat, em_d, zl, z_add, z_sub, z_mul, z_lt, z_eq, gI_mk, gJ_mk, cI_some, cV_some, cJ_some, cI_x, cV_x, cJ_x, uS_self, uS_ne, if_pos, if_neg, b01, b01n, ite_not, if_true, if_false, c_within, c_req1]
  rw [show 9999998 = 9999997 + 1 from rfl, e_X9_reach_9, h1]
  simp (disch := omega) only [hk, hu, hI_n, hI_un, z_nat, em_d, zl, z_add, z_sub, z_mul, z_lt, z_eq, gI_mk, gJ_mk, cI_some, cV_some, cJ_some, cI_x, cV_x, cJ_x, uS_self, uS_ne, if_pos, if_neg, b01, b01n, ite_not, if_true, if_false, e50]
  rw [h3]
  simp (disch := omega) only [hk, hu, hI_n, hI_un, z_nat, em_d, zl, z_add, z_sub, z_mul, z_lt, z_eq, gI_mk, gJ_mk, cI_some, cV_some, cJ_some, cI_x, cV_x, cJ_x, uS_self, uS_ne, if_pos, if_neg, b01, b01n, ite_not, if_true, if_false]
  generalize soonF rd s (plainZ cd rd) nT nR t (s 50) = D at h4 hD
  refine loop_bits (fun x k m => aR X (d + 4) m_X9_reach x 31 [some (.ref 0), none, some (.int (zI n)), some (.int (zI m)), some (.int (zI k))] (2, 12) (mkS w (hI S2) J)) (fun x => decide (¬ D x = -1 ∧ D x ≤ n)) nT 1 (fun m => some (.inl (some (.int (zI m))), (mkS w (hI S2) J))) (by omega) (fun x k m q1 q2 q3 => ?_) (fun x m q1 => ?_) 9999997 (by omega)
  · show aR X (d + 4) m_X9_reach (x + 1) 31 [some (.ref 0), none, some (.int (zI n)), some (.int (zI ((m : Int)))), some (.int (zI k))] (2, 12) (mkS w (hI S2) J) = aR X (d + 4) m_X9_reach x 31 [some (.ref 0), none, some (.int (zI n)), some (.int (zI (((m ||| (if decide (¬ D k = -1 ∧ D k ≤ n) = true then 2 ^ k.toNat else 0) : Nat) : Int)))), some (.int (zI ((k + 1))))] (2, 12) (mkS w (hI S2) J)
    have e := h4 k q1 (by omega)
    have hd := hD k
    rw [e_X9_reach_31]
    by_cases p1 : D k = -1
    · simp (disch := omega) only [hk, hu, hI_n, hI_un, z_nat, em_d, zl, z_add, z_sub, z_mul, z_lt, z_eq, gI_mk, gJ_mk, cI_some, cV_some, cJ_some, cI_x, cV_x, cJ_x, uS_self, uS_ne, if_pos, if_neg, b01, b01n, ite_not, if_true, if_false, t6, e, p1, not_true_eq_false, false_and, decide_false, Bool.false_eq_true, Nat.or_zero]
    · by_cases p2 : D k ≤ n
      · simp (disch := omega) only [hk, hu, hI_n, hI_un, z_nat, em_d, zl, z_add, z_sub, z_mul, z_lt, z_eq, gI_mk, gJ_mk, cI_some, cV_some, cJ_some, cI_x, cV_x, cJ_x, uS_self, uS_ne, if_pos, if_neg, b01, b01n, ite_not, if_true, if_false, t6, e, p1, p2, not_false_eq_true, and_self, decide_true, z_shl1, z_or]
      · simp (disch := omega) only [hk, hu, hI_n, hI_un, z_nat, em_d, zl, z_add, z_sub, z_mul, z_lt, z_eq, gI_mk, gJ_mk, cI_some, cV_some, cJ_some, cI_x, cV_x, cJ_x, uS_self, uS_ne, if_pos, if_neg, b01, b01n, ite_not, if_true, if_false, t6, e, p1, p2, not_false_eq_true, and_false, decide_false, Bool.false_eq_true, Nat.or_zero]
  · obtain ⟨x, rfl⟩ : ∃ n', x = n' + 1 := ⟨x - 1, by omega⟩
    show aR X (d + 4) m_X9_reach (x + 1) 31 [some (.ref 0), none, some (.int (zI n)), some (.int (zI m)), some (.int (zI nT))] (2, 12) (mkS w (hI S2) J) = _
    rw [e_X9_reach_31]
    simp (disch := omega) only [hk, hu, hI_n, hI_un, z_nat, em_d, zl, z_add, z_sub, z_mul, z_lt, z_eq, gI_mk, gJ_mk, cI_some, cV_some, cJ_some, cI_x, cV_x, cJ_x, uS_self, uS_ne, if_pos, if_neg, b01, b01n, ite_not, if_true, if_false, t6, rI_d]
theorem c_reachN (hL : CL S (iL w.1) nT nR nC rd) {r h : Int} (hr : -2147483648 ≤ r ∧ r < 2147483648) (hn : ¬ (0 ≤ r ∧ r < nT)) : am_call X aP (d + 5) 135 [.ref 0, .int (zI r), .int (zI h)] (mkS w (hI S) J) = some (.inr 1, (mkS w (hI (xnS S)) J)) := by
  rw [go_X9_reach, e_X9_reach_0]
  simp (disch := omega) only [hk, hu, hI_n, hI_un, z_nat, em_d, zl, z_add, z_sub, z_mul, z_lt, z_eq, gI_mk, gJ_mk, cI_some, cV_some, cJ_some, cI_x, cV_x, cJ_x, uS_self, uS_ne, if_pos, if_neg, b01, b01n, ite_not, if_true, if_false, c_town0 hL hr hn, rX_d]
theorem c_reachB (hL : CL S (iL w.1) nT nR nC rd) {r h : Int} (hr : 0 ≤ r ∧ r < nT) (hh : -2147483648 ≤ h ∧ h < 2147483648) (hn : ¬ (0 ≤ h ∧ h ≤ 200)) : am_call X aP (d + 5) 135 [.ref 0, .int (zI r), .int (zI h)] (mkS w (hI S) J) = some (.inr 2, (mkS w (hI (xbS S)) J)) := by
  rw [go_X9_reach, e_X9_reach_0]
  simp (disch := omega) only [hk, hu, hI_n, hI_un, z_nat, em_d, zl, z_add, z_sub, z_mul, z_lt, z_eq, gI_mk, gJ_mk, cI_some, cV_some, cJ_some, cI_x, cV_x, cJ_x, uS_self, uS_ne, if_pos, if_neg, b01, b01n, ite_not, if_true, if_false, c_town1 hL hr]
  rw [show 9999999 = 9999998 + 1 from rfl, e_X9_reach_3]
  simp (disch := omega) only [hk, hu, hI_n, hI_un, z_nat, em_d, zl, z_add, z_sub, z_mul, z_lt, z_eq, gI_mk, gJ_mk, cI_some, cV_some, cJ_some, cI_x, cV_x, cJ_x, uS_self, uS_ne, if_pos, if_neg, b01, b01n, ite_not, if_true, if_false, c_within, c_req0, rX_d]
end CPB
