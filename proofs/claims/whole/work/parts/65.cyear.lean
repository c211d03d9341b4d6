/-! THE CLASS: an hour, drawing -/
/-- who is on no road has gone nothing; on a road no more than it is long -/
def Sg (rd : Int → Int) (nC : Int) (s : Int → Int) : Prop := ∀ c, 0 ≤ c → c < nC → (s (34 + c) = -1 → s (39 + c) = 0) ∧ (¬ s (34 + c) = -1 → 0 ≤ s (39 + c) ∧ s (39 + c) ≤ rd (4 * s (34 + c) + 2))
theorem gonF_r {cd : List (Int × Int)} {rd : Int → Int} {nR nC : Int} {s : Int → Int} (hv : Sw nR nC s) (hrd : Rd nR rd) {c : Int} (hc : 0 ≤ c ∧ c < nC) : -100 ≤ gonF cd rd nC s c ∧ gonF cd rd nC s c ≤ 100 := by
  obtain ⟨v1, v2, v3, v4⟩ := hv.2 c hc.1 hc.2
  have hp := pBy_r cd rd nC s (s (34 + c))
  unfold gonF
  by_cases q : comes cd rd nC s c
  · rw [if_pos q]; omega
  · rw [if_neg q]
    by_cases q2 : ¬ s (34 + c) = -1 ∧ ¬ rst s (s (34 + c))
    · rw [if_pos q2]
      obtain ⟨-, -, -, -, b5, b6⟩ := hrd (s (34 + c)) (by have := q2.1; omega) v2
      have : ¬ rd (4 * s (34 + c) + 2) ≤ s (39 + c) + pBy cd rd nC s (s (34 + c)) := fun z => q ⟨q2.1, q2.2, z⟩
      omega
    · rw [if_neg q2]; omega
theorem hC_w (cd : List (Int × Int)) {rd : Int → Int} {nR nC : Int} {s : Int → Int} (hv : Sw nR nC s) (hrd : Rd nR rd) {k : Int} (hk : 0 ≤ k ∧ k ≤ nR) (hR : nR ≤ 12) (hC5 : nC ≤ 5) : Sw nR nC (hC cd rd nC s k) := by
  refine ⟨fun r r1 r2 => ?_, fun c c1 c2 => ?_⟩
  · rw [hC_un cd rd s (by omega) hC5 (by omega)]
    exact hv.1 r r1 r2
  · obtain ⟨v1, v2, v3, v4⟩ := hv.2 c c1 c2
    have hg := gonF_r (cd := cd) hv hrd ⟨c1, c2⟩
    rw [hC_34 cd rd s (by omega) ⟨c1, c2⟩ hC5, hC_39 cd rd s (by omega) ⟨c1, c2⟩ hC5]
    by_cases q : s (34 + c) < k
    · rw [if_pos q, if_pos q]
      by_cases q2 : comes cd rd nC s c
      · rw [if_pos q2]; omega
      · rw [if_neg q2]; omega
    · rw [if_neg q, if_neg q]; omega
/-- what is drawn: the seed goes on -/
def nxS (sd : Int) : Int := sd * 1103515245 + 12345
def drawC (rd : Int → Int) (nR nC : Int) (x : (Int → Int) × Int) : (Int → Int) × Int := if 0 < nC then (if canSet rd x.1 (drw (nxS x.2) % nC) (drw (nxS (nxS x.2)) % nR) then setF rd x.1 (drw (nxS x.2) % nC) (drw (nxS (nxS x.2)) % nR) else x.1, nxS (nxS x.2)) else x
def drawR (nR q : Int) (x : (Int → Int) × Int) : (Int → Int) × Int := if drw (nxS x.2) % 16 < q then (if x.1 (drw (nxS (nxS x.2)) % nR) = drw (nxS (nxS (nxS x.2))) % 7 then x.1 else pu x.1 (drw (nxS (nxS x.2)) % nR) (drw (nxS (nxS (nxS x.2))) % 7), nxS (nxS (nxS x.2))) else (x.1, nxS x.2)
def drawF (rd : Int → Int) (nR nC q : Int) (x : (Int → Int) × Int) : (Int → Int) × Int := if nR = 0 then x else drawR nR q (drawC rd nR nC x)
section CYE
variable {X : Nat × (Nat → Int32)} {d : Nat} {w : Bool × Bool × Bool} {S : Hp} {J : Nat → Nat → Int64} {nT nR nC : Int} {rd s : Int → Int} {cd : List (Int × Int)} {bl bs bw : Bool}
theorem c_passHour (hL : CL S (iL bl) nT nR nC rd) (hs : CS nR nC S (iS bs) s) (hv : Sw nR nC s) (h50 : 0 ≤ s 50 ∧ s 50 < 100000) (hc : CW S (iW bw) cd) : ∃ S', am_call X aP (d + 5) 62 [.ref (iS bs), .ref ((iL bl)), .ref ((iW bw))] (mkS w (hI S) J) = some (.inl none, (mkS w (hI S') J)) ∧ CS nR nC S' (iS bs) (hourF cd rd nR nC s) ∧ Fr [iW bw + 3, iW bw + 4, iS bs, iS bs + 2, iS bs + 5, iS bs + 6] S S' ∧ ∀ k, k ≠ 9 → k ≠ 8 → S' (iS bs) k = S (iS bs) k := by
  have hw := iW_c bw
  have hl := iL_c bl
  have hsb := iS_c bs
  have hL0 := hL
  obtain ⟨a1, a2, a3, a4, a5, a6, a7, a8, a9, a10, a11⟩ := hL
  rw [go_X5_passHour, e_X5_passHour_0, z_0]
  have hon1 : ∀ c, 0 ≤ c → c < nC → -1 ≤ s (34 + c) := fun c c1 c2 => (hv.2 c c1 c2).1
  have hon2 : ∀ c, 0 ≤ c → c < nC → s (34 + c) < nR := fun c c1 c2 => (hv.2 c c1 c2).2.1
  obtain ⟨S2, ⟨f2, f3, f4⟩, k1⟩ := loopE (fun n k T => aR X (d + 4) m_X5_passHour n 2 [some (.ref ((iS bs))), some (.ref ((iL bl))), some (.ref ((iW bw))), some (.int (zI k))] (0, 0) (mkS w (hI T) J)) (fun k T => Fr [iW bw + 3, iW bw + 4, iS bs, iS bs + 2, iS bs + 5, iS bs + 6] S T ∧ (∀ k, k ≠ 9 → T (iS bs) k = S (iS bs) k) ∧ CS nR nC T (iS bs) (hC cd rd nC s k)) nR 1 (fun k T q3 q4 q5 => by
    obtain ⟨q5, q6, q7⟩ := q5
    have hLT : CL T (iL bl) nT nR nC rd := CL_fr hL0 q5 (fun i hi => by simp; omega)
    obtain ⟨T', h1, h2, h3, h4⟩ := c_passOn (X := X) (d := d) (w := w) (J := J) hLT q7 (hC_w cd hv a11 ⟨q3, by omega⟩ a8 a10) (by rw [hC_un cd rd s (by omega) a10 (Or.inr (Or.inr (Or.inr rfl)))]; exact h50) (CW_fr hc q5 (fun i hi => by simp; omega)) (bw := bw) (r := k) ⟨q3, q4⟩
    refine ⟨T', ⟨Fr_tr q5 h3 (fun _ z => z) (fun _ z => z), fun j hj => (h4 j hj).trans (q6 j hj), CS_congr h2 (fun j hj => hC_step cd rd s ⟨q3, q4⟩ a8 ⟨a9, a10⟩ hon1 hj)⟩, fun n hn => ?_⟩
    obtain ⟨n, rfl⟩ : ∃ n', n = n' + 1 := ⟨n - 1, by omega⟩
    refine ⟨n, by omega, ?_⟩
    show aR X (d + 4) m_X5_passHour (n + 1) 2 [some (.ref ((iS bs))), some (.ref ((iL bl))), some (.ref ((iW bw))), some (.int (zI k))] (0, 0) (mkS w (hI T) J) = aR X (d + 4) m_X5_passHour n 2 [some (.ref ((iS bs))), some (.ref ((iL bl))), some (.ref ((iW bw))), some (.int (zI ((k + 1))))] (0, 0) (mkS w (hI T') J)
    have t7 := hLT.2.1
    rw [e_X5_passHour_2]
    simp (disch := omega) only [hk, hu, hI_n, hI_un, z_nat, em_d, zl, z_add, z_sub, z_mul, z_lt, z_eq, gI_mk, gJ_mk, cI_some, cV_some, cJ_some, cI_x, cV_x, cJ_x, uS_self, uS_ne, if_pos, if_neg, b01, b01n, ite_not, if_true, if_false, hLL, t7]
    rw [h1]
    simp (disch := omega) only [hk, hu, hI_n, hI_un, z_nat, em_d, zl, z_add, z_sub, z_mul, z_lt, z_eq, gI_mk, gJ_mk, cI_some, cV_some, cJ_some, cI_x, cV_x, cJ_x, uS_self, uS_ne, if_pos, if_neg, b01, b01n, ite_not, if_true, if_false, hLL]) nR.toNat 0 S (by omega) (by omega) ⟨Fr_rf _ _, fun _ _ => rfl, CS_congr hs (fun j _ => (hC_zero cd rd s ⟨a9, a10⟩ hon1 j).symm)⟩
  obtain ⟨n1, k2, k3⟩ := k1 9999999 (by omega)
  obtain ⟨n1, rfl⟩ : ∃ n', n1 = n' + 1 := ⟨n1 - 1, by omega⟩
  rw [k3]
  have hLT : CL S2 (iL bl) nT nR nC rd := CL_fr hL0 f2 (fun i hi => by simp; omega)
  have t7 := hLT.2.1
  have t8 := f4.2.2.1
  rw [hC_un cd rd s ⟨a7, a8⟩ a10 (Or.inr (Or.inr (Or.inr rfl)))] at t8
  refine ⟨uS S2 (iS bs) 8 (s 50 + 1), ?_, ?_, ?_, fun k h9 h8 => ?_⟩
  · show aR X (d + 4) m_X5_passHour (n1 + 1) 2 [some (.ref ((iS bs))), some (.ref ((iL bl))), some (.ref ((iW bw))), some (.int (zI nR))] (0, 0) (mkS w (hI S2) J) = _
    rw [e_X5_passHour_2]
    simp (disch := omega) only [hk, hu, hI_n, hI_un, z_nat, em_d, zl, z_add, z_sub, z_mul, z_lt, z_eq, gI_mk, gJ_mk, cI_some, cV_some, cJ_some, cI_x, cV_x, cJ_x, uS_self, uS_ne, if_pos, if_neg, b01, b01n, ite_not, if_true, if_false, hLL, t7, t8, rV_d]
  · have f5 : CS nR nC S2 (iS bs) (fun j => if j = 50 then s 50 else hourF cd rd nR nC s j) := CS_congr f4 (fun j hj => by
      by_cases z : j = 50
      · rw [if_pos z, z]
        exact hC_un cd rd s ⟨a7, a8⟩ a10 (Or.inr (Or.inr (Or.inr rfl)))
      · rw [if_neg z]
        exact hC_end cd rd s ⟨a7, a8⟩ ⟨a9, a10⟩ hon2 z)
    refine ⟨fun r r1 r2 => ?_, fun c c1 c2 => ?_, ?_, ?_⟩
    · rw [uS_row _ _ _ (by omega), uS_row _ _ _ (by omega)]
      have := f5.1 r r1 r2
      simp (disch := omega) only [if_neg] at this
      exact this
    · rw [uS_row _ _ _ (by omega), uS_row _ _ _ (by omega), uS_row _ _ _ (by omega), uS_row _ _ _ (by omega), uS_row _ _ _ (by omega)]
      have := f5.2.1 c c1 c2
      simp (disch := omega) only [if_neg] at this
      exact this
    · rw [uS_self]
      unfold hourF
      rw [if_pos rfl]
    · rw [uS_ne _ _ (Or.inr (by decide))]
      have := f5.2.2.2
      simp (disch := omega) only [if_neg] at this
      exact this
  · intro o ho
    rw [uS_row _ _ _ (fun z => ho (by rw [z]; simp))]
    exact f2 o ho
  · rw [uS_ne _ _ (Or.inr h8)]
    exact f3 k h9
theorem c_loadAnew (hs : CS nR nC S (iS bs) s) (hR : nR ≤ 12) (hC5 : nC ≤ 5) {c v : Int} (hc : 0 ≤ c ∧ c < nC) (hl : 0 ≤ s (44 + c) ∧ s (44 + c) < 100) (hv : 0 ≤ v ∧ v < 100) : ∃ S', am_call X aP (d + 1) 60 [.ref (iS bs), .int (zI c), .int (zI v)] (mkS w (hI S) J) = some (.inl (some (.int (zI (if ¬ s (44 + c) = v then 1 else 0)))), (mkS w (hI S') J)) ∧ CS nR nC S' (iS bs) (if ¬ s (44 + c) = v then pu s (44 + c) v else s) ∧ Fr [iS bs + 7] S S' := by
  have hsb := iS_c bs
  obtain ⟨e1, e2, e3, e4, e5⟩ := hs.2.1 c hc.1 hc.2
  by_cases q : s (44 + c) = v
  · refine ⟨S, ?_, by rw [if_neg (fun z => z q)]; exact hs, Fr_rf _ _⟩
    rw [go_X5_loadAnew, e_X5_loadAnew_0]
    simp (disch := omega) only [hk, hu, hI_n, hI_un, z_nat, em_d, zl, z_add, z_sub, z_mul, z_lt, z_eq, gI_mk, gJ_mk, cI_some, cV_some, cJ_some, cI_x, cV_x, cJ_x, uS_self, uS_ne, if_pos, if_neg, b01, b01n, ite_not, if_true, if_false, hLL, e5, q, rI_d, not_true_eq_false]
  · refine ⟨uS S (iS bs + 7) c v, ?_, ?_, Fr_u S _ _ (by simp)⟩
    · rw [go_X5_loadAnew, e_X5_loadAnew_0]
      simp (disch := omega) only [hk, hu, hI_n, hI_un, z_nat, em_d, zl, z_add, z_sub, z_mul, z_lt, z_eq, gI_mk, gJ_mk, cI_some, cV_some, cJ_some, cI_x, cV_x, cJ_x, uS_self, uS_ne, if_pos, if_neg, b01, b01n, ite_not, if_true, if_false, hLL, e5, q, rI_d, not_false_eq_true]
    · rw [if_pos q]
      refine ⟨fun r' r1 r2 => ?_, fun c' c1 c2 => ?_, ?_, ?_⟩
      · unfold pu
        simp (disch := omega) only [uS_ne, if_neg]
        exact hs.1 r' r1 r2
      · obtain ⟨g1, g2, g3, g4, g5⟩ := hs.2.1 c' c1 c2
        unfold pu
        by_cases e : c' = c
        · subst e
          simp (disch := omega) only [uS_self, uS_ne, if_neg, if_true, g1, g2, g3, g4, and_self]
        · simp (disch := omega) only [uS_ne, if_neg, g1, g2, g3, g4, g5, and_self]
      · unfold pu
        simp (disch := omega) only [uS_ne, if_neg]
        exact hs.2.2.1
      · unfold pu
        simp (disch := omega) only [uS_ne, if_neg]
        exact hs.2.2.2
theorem c_offAnew (hs : CS nR nC S (iS bs) s) (hR : nR ≤ 12) {r v : Int} (hr : 0 ≤ r ∧ r < nR) (hl : 0 ≤ s r ∧ s r < 7) (hv : 0 ≤ v ∧ v < 7) : ∃ S', am_call X aP (d + 1) 61 [.ref (iS bs), .int (zI r), .int (zI v)] (mkS w (hI S) J) = some (.inl (some (.int (zI (if ¬ s r = v then 1 else 0)))), (mkS w (hI S') J)) ∧ CS nR nC S' (iS bs) (if ¬ s r = v then pu s r v else s) ∧ Fr [iS bs + 1] S S' := by
  have hsb := iS_c bs
  obtain ⟨e1, e2⟩ := hs.1 r hr.1 hr.2
  by_cases q : s r = v
  · refine ⟨S, ?_, by rw [if_neg (fun z => z q)]; exact hs, Fr_rf _ _⟩
    rw [go_X5_offAnew, e_X5_offAnew_0]
    simp (disch := omega) only [hk, hu, hI_n, hI_un, z_nat, em_d, zl, z_add, z_sub, z_mul, z_lt, z_eq, gI_mk, gJ_mk, cI_some, cV_some, cJ_some, cI_x, cV_x, cJ_x, uS_self, uS_ne, if_pos, if_neg, b01, b01n, ite_not, if_true, if_false, hLL, e1, q, rI_d, not_true_eq_false]
  · refine ⟨uS S (iS bs + 1) r v, ?_, ?_, Fr_u S _ _ (by simp)⟩
    · rw [go_X5_offAnew, e_X5_offAnew_0]
      simp (disch := omega) only [hk, hu, hI_n, hI_un, z_nat, em_d, zl, z_add, z_sub, z_mul, z_lt, z_eq, gI_mk, gJ_mk, cI_some, cV_some, cJ_some, cI_x, cV_x, cJ_x, uS_self, uS_ne, if_pos, if_neg, b01, b01n, ite_not, if_true, if_false, hLL, e1, q, rI_d, not_false_eq_true]
    · rw [if_pos q]
      refine ⟨fun r' r1 r2 => ?_, fun c' c1 c2 => ?_, ?_, ?_⟩
      · obtain ⟨g1, g2⟩ := hs.1 r' r1 r2
        unfold pu
        by_cases e : r' = r
        · subst e
          simp (disch := omega) only [uS_self, uS_ne, if_neg, if_true, g2, and_self]
        · simp (disch := omega) only [uS_ne, if_neg, g1, g2, and_self]
      · unfold pu
        simp (disch := omega) only [uS_ne, if_neg]
        exact hs.2.1 c' c1 c2
      · unfold pu
        simp (disch := omega) only [uS_ne, if_neg]
        exact hs.2.2.1
      · unfold pu
        simp (disch := omega) only [uS_ne, if_neg]
        exact hs.2.2.2
theorem c_draw {b : Int} (hb : 0 < b ∧ b < 100) : am_call X aP (d + 1) 66 [.ref (iS bs), .int (zI b)] (mkS w (hI S) J) = some (.inl (some (.int (zI (drw (nxS (S (iS bs) 10)) % b)))), (mkS w (hI (uS S (iS bs) 10 (nxS (S (iS bs) 10)))) J)) := by
  have hd := drw_r (nxS (S (iS bs) 10))
  rw [go_X5_draw, e_X5_draw_0]
  simp (disch := omega) only [hk, hu, zl, z_mul, z_add, uS_self, z_lt, z_eq, if_pos, if_neg]
  rw [show zI 16 = nI 16 from (z_nI 16).symm, show zI 32767 = nI 32767 from (z_nI 32767).symm]
  rw [show (S (iS bs) 10 * 1103515245 + 12345) = nxS (S (iS bs) 10) from rfl, drw_u]
  simp (disch := omega) only [hk, hu, hI_n, hI_un, z_nat, em_d, zl, z_add, z_sub, z_mul, z_lt, z_eq, gI_mk, gJ_mk, cI_some, cV_some, cJ_some, cI_x, cV_x, cJ_x, uS_self, uS_ne, if_pos, if_neg, b01, b01n, ite_not, if_true, if_false, z_div, rI_d]
end CYE
