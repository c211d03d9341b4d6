/-! THE CLASS: an hour, road by road -/
/-- what is wanted of a scene while an hour goes by -/
def Sw (nR nC : Int) (s : Int → Int) : Prop := (∀ r, 0 ≤ r → r < nR → 0 ≤ s r ∧ s r < 7) ∧ (∀ c, 0 ≤ c → c < nC → -1 ≤ s (34 + c) ∧ s (34 + c) < nR ∧ -100 ≤ s (39 + c) ∧ s (39 + c) ≤ 100)
theorem Sw_on {nR nC : Int} {s : Int → Int} (h : Sw nR nC s) (hR : nR ≤ 12) : OnR nC s := fun c h1 h2 => by
  obtain ⟨v1, v2, -⟩ := h.2 c h1 h2
  omega
theorem Sc_w {nR nC : Int} {s : Int → Int} (h : Sc nR nC s) : Sw nR nC s := ⟨fun r r1 r2 => by
  obtain ⟨v1, v2, -⟩ := h.1 r r1 r2
  exact ⟨v1, v2⟩, fun c c1 c2 => by
  obtain ⟨-, -, -, -, v1, v2, v3, v4, -⟩ := h.2.1 c c1 c2
  exact ⟨v1, v2, v3, v4⟩⟩
/-- what the hour does on road r -/
def passF (cd : List (Int × Int)) (rd : Int → Int) (nC : Int) (s : Int → Int) (r k : Int) : Int :=
  if k = 12 + r then (if rst s r then 0 else s k + (if onB nC s r = 0 then 0 else 1))
  else if k = 49 then s 49 + sumZ (fun c => if s (34 + c) = r ∧ comes cd rd nC s c then 1 else 0) nC.toNat
  else if 34 ≤ k ∧ k < 34 + nC ∧ s k = r then (if comes cd rd nC s (k - 34) then -1 else s k)
  else if 39 ≤ k ∧ k < 39 + nC ∧ s (34 + (k - 39)) = r then gonF cd rd nC s (k - 39)
  else s k
/-- while carters are asked one by one -/
def passG (cd : List (Int × Int)) (rd : Int → Int) (nC : Int) (s : Int → Int) (r c k : Int) : Int :=
  if k = 49 then s 49 + sumZ (fun c => if s (34 + c) = r ∧ comes cd rd nC s c then 1 else 0) c.toNat
  else if 34 ≤ k ∧ k < 34 + c ∧ s k = r then (if comes cd rd nC s (k - 34) then -1 else s k)
  else if 39 ≤ k ∧ k < 39 + c ∧ s (34 + (k - 39)) = r then gonF cd rd nC s (k - 39)
  else s k
theorem passG_succ (cd : List (Int × Int)) (rd : Int → Int) (nC : Int) (s : Int → Int) (r : Int) {c : Int} (hc : 0 ≤ c ∧ c < 5) (k : Int) : passG cd rd nC s r (c + 1) k = if k = 49 then passG cd rd nC s r c 49 + (if s (34 + c) = r ∧ comes cd rd nC s c then 1 else 0) else if k = 34 + c then (if s (34 + c) = r ∧ comes cd rd nC s c then -1 else s (34 + c)) else if k = 39 + c then (if s (34 + c) = r then gonF cd rd nC s c else s (39 + c)) else passG cd rd nC s r c k := by
  unfold passG
  by_cases q1 : k = 49
  · rw [if_pos q1, if_pos q1, if_pos rfl]
    have : (c + 1).toNat = c.toNat + 1 := by omega
    rw [this]
    show s 49 + (sumZ _ c.toNat + (if s (34 + (c.toNat : Int)) = r ∧ comes cd rd nC s (c.toNat : Int) then 1 else 0)) = _
    rw [Int.toNat_of_nonneg hc.1, Int.add_assoc]
  · rw [if_neg q1, if_neg q1, if_neg q1]
    by_cases q2 : k = 34 + c
    · subst q2
      rw [if_pos rfl, show 34 + c - 34 = c by omega]
      by_cases q5 : s (34 + c) = r
      · rw [if_pos (show 34 ≤ 34 + c ∧ 34 + c < 34 + (c + 1) ∧ s (34 + c) = r from ⟨by omega, by omega, q5⟩)]
        by_cases q6 : comes cd rd nC s c
        · rw [if_pos q6, if_pos ⟨q5, q6⟩]
        · rw [if_neg q6, if_neg (fun z => q6 z.2)]
      · rw [if_neg (fun z => q5 z.2.2), if_neg (show ¬ (39 ≤ 34 + c ∧ 34 + c < 39 + (c + 1) ∧ s (34 + (34 + c - 39)) = r) from fun z => by have := z.1; omega), if_neg (fun z => q5 z.1)]
    · rw [if_neg q2]
      by_cases q3 : k = 39 + c
      · subst q3
        rw [if_pos rfl, if_neg (show ¬ (34 ≤ 39 + c ∧ 39 + c < 34 + (c + 1) ∧ s (39 + c) = r) from fun z => by have := z.2.1; omega), show 39 + c - 39 = c by omega]
        by_cases q5 : s (34 + c) = r
        · rw [if_pos (show 39 ≤ 39 + c ∧ 39 + c < 39 + (c + 1) ∧ s (34 + c) = r from ⟨by omega, by omega, q5⟩), if_pos q5]
        · rw [if_neg (fun z => q5 z.2.2), if_neg q5]
      · rw [if_neg q3]
        by_cases q4 : 34 ≤ k ∧ k < 34 + c ∧ s k = r
        · rw [if_pos q4, if_pos (show 34 ≤ k ∧ k < 34 + (c + 1) ∧ s k = r from ⟨q4.1, by omega, q4.2.2⟩)]
        · rw [if_neg q4, if_neg (show ¬ (34 ≤ k ∧ k < 34 + (c + 1) ∧ s k = r) from fun z => q4 ⟨z.1, by omega, z.2.2⟩)]
          by_cases q5 : 39 ≤ k ∧ k < 39 + c ∧ s (34 + (k - 39)) = r
          · rw [if_pos q5, if_pos (show 39 ≤ k ∧ k < 39 + (c + 1) ∧ s (34 + (k - 39)) = r from ⟨q5.1, by omega, q5.2.2⟩)]
          · rw [if_neg q5, if_neg (show ¬ (39 ≤ k ∧ k < 39 + (c + 1) ∧ s (34 + (k - 39)) = r) from fun z => q5 ⟨z.1, by omega, z.2.2⟩)]
theorem passG_un (cd : List (Int × Int)) (rd : Int → Int) (nC : Int) (s : Int → Int) (r c k : Int) (h : k ≠ 49 ∧ (k < 34 ∨ 34 + c ≤ k) ∧ (k < 39 ∨ 39 + c ≤ k)) : passG cd rd nC s r c k = s k := by
  unfold passG
  rw [if_neg h.1, if_neg (fun z => by have := z.1; have := z.2.1; omega), if_neg (fun z => by have := z.1; have := z.2.1; omega)]
theorem bits_zero {p : Int → Bool} : ∀ {n : Nat}, bits p n = 0 → ∀ k : Int, 0 ≤ k → k < n → p k = false
  | n, h, k, h1, h2 => by
    have h3 := bits_test p n k.toNat
    rw [h, Nat.zero_testBit, Int.toNat_of_nonneg h1, decide_eq_true (show k.toNat < n by omega), Bool.true_and] at h3
    exact h3.symm
section CPA
variable {X : Nat × (Nat → Int32)} {d : Nat} {w : Bool × Bool × Bool} {S : Hp} {J : Nat → Nat → Int64} {nT nR nC : Int} {rd s : Int → Int} {cd : List (Int × Int)} {bl bs bw : Bool}
/-- one carter goes on: three cells -/
theorem c_goOn {c p l : Int} (hc : 0 ≤ c ∧ c < 5) (hg : -1000 ≤ S (iS bs + 6) c ∧ S (iS bs + 6) c ≤ 1000) (hp : 0 ≤ p ∧ p ≤ 9) (hl : 0 ≤ l ∧ l ≤ 40) : am_call X aP (d + 1) 64 [.ref (iS bs), .int (zI c), .int (zI p), .int (zI l)] (mkS w (hI S) J) = if S (iS bs + 6) c + p < l then some (.inl none, (mkS w (hI (uS S (iS bs + 6) c (S (iS bs + 6) c + p))) J)) else some (.inl none, (mkS w (hI (uS (uS (uS (uS S (iS bs + 6) c (S (iS bs + 6) c + p)) (iS bs + 5) c (-1)) (iS bs + 6) c 0) (iS bs) 9 (S (iS bs) 9 + 1))) J)) := by
  have hsb := iS_c bs
  rw [go_X5_goOn, e_X5_goOn_0]
  by_cases q : S (iS bs + 6) c + p < l
  · simp (disch := omega) only [hk, hu, hI_n, hI_un, z_nat, em_d, zl, z_add, z_sub, z_mul, z_lt, z_eq, gI_mk, gJ_mk, cI_some, cV_some, cJ_some, cI_x, cV_x, cJ_x, uS_self, uS_ne, if_pos, if_neg, b01, b01n, ite_not, if_true, if_false, hLL, rV_d]
  · simp (disch := omega) only [hk, hu, hI_n, hI_un, z_nat, em_d, zl, z_add, z_sub, z_mul, z_lt, z_eq, gI_mk, gJ_mk, cI_some, cV_some, cJ_some, cI_x, cV_x, cJ_x, uS_self, uS_ne, if_pos, if_neg, b01, b01n, ite_not, if_true, if_false, hLL, rV_d]
theorem c_passOn (hL : CL S (iL bl) nT nR nC rd) (hs : CS nR nC S (iS bs) s) (hv : Sw nR nC s) (h50 : 0 ≤ s 50 ∧ s 50 < 100000) (hc : CW S (iW bw) cd) {r : Int} (hr : 0 ≤ r ∧ r < nR) : ∃ S', am_call X aP (d + 4) 63 [.ref (iS bs), .ref ((iL bl)), .ref ((iW bw)), .int (zI r)] (mkS w (hI S) J) = some (.inl none, (mkS w (hI S') J)) ∧ CS nR nC S' (iS bs) (passF cd rd nC s r) ∧ Fr [iW bw + 3, iW bw + 4, iS bs, iS bs + 2, iS bs + 5, iS bs + 6] S S' ∧ ∀ k, k ≠ 9 → S' (iS bs) k = S (iS bs) k := by
  have hw := iW_c bw
  have hl := iL_c bl
  have hsb := iS_c bs
  have hL0 := hL
  obtain ⟨a1, a2, a3, a4, a5, a6, a7, a8, a9, a10, a11⟩ := hL
  have hon := Sw_on hv a8
  obtain ⟨b1, b2, b3⟩ := a4 r hr.1 hr.2
  obtain ⟨b4, b5⟩ := hs.1 r hr.1 hr.2
  obtain ⟨v1, v2⟩ := hv.1 r hr.1 hr.2
  obtain ⟨-, -, -, -, v5, v6⟩ := a11 r hr.1 hr.2
  by_cases q : rst s r
  · refine ⟨uS S (iS bs + 2) r 0, ?_, ⟨fun r' r1 r2 => ?_, fun c c1 c2 => ?_, ?_, ?_⟩, Fr_u S _ _ (by simp), fun k _ => uS_ne S _ (Or.inl (by omega))⟩
    · rw [go_X5_passOn, e_X5_passOn_0, c_rests hs a8 h50 hr ⟨v1, v2⟩]
      simp (disch := omega) only [hk, hu, hI_n, hI_un, z_nat, em_d, zl, z_add, z_sub, z_mul, z_lt, z_eq, gI_mk, gJ_mk, cI_some, cV_some, cJ_some, cI_x, cV_x, cJ_x, uS_self, uS_ne, if_pos, if_neg, b01, b01n, ite_not, if_true, if_false, hLL, q, not_true_eq_false, rV_d]
    · rw [uS_ne S _ (Or.inl (by omega))]
      obtain ⟨g1, g2⟩ := hs.1 r' r1 r2
      unfold passF
      rw [if_neg (show ¬ r' = 12 + r by omega), if_neg (show ¬ r' = 49 by omega), if_neg (fun z => by have := z.1; omega), if_neg (fun z => by have := z.1; omega)]
      refine ⟨g1, ?_⟩
      by_cases e : r' = r
      · subst e
        rw [uS_self, if_pos rfl, if_pos q]
      · rw [uS_ne S _ (Or.inr e), if_neg (by omega), if_neg (by omega), if_neg (fun z => by have := z.1; omega), if_neg (fun z => by have := z.1; omega)]
        exact g2
    · simp (disch := omega) only [uS_ne]
      obtain ⟨g1, g2, g3, g4, g5⟩ := hs.2.1 c c1 c2
      have nc : s (34 + c) = r → ¬ comes cd rd nC s c := fun z y => y.2.1 (by rw [z]; exact q)
      have e34 : passF cd rd nC s r (34 + c) = s (34 + c) := by
        unfold passF
        rw [if_neg (by omega), if_neg (by omega), show 34 + c - 34 = c by omega]
        split
        · next z => rw [if_neg (nc z.2.2)]
        · rw [if_neg (fun z => by have := z.1; omega)]
      have e39 : passF cd rd nC s r (39 + c) = s (39 + c) := by
        unfold passF
        rw [if_neg (by omega), if_neg (by omega), if_neg (fun z => by have := z.2.1; omega), show 39 + c - 39 = c by omega]
        split
        · next z =>
          unfold gonF
          rw [if_neg (nc z.2.2), if_neg (fun y => y.2 (by rw [z.2.2]; exact q))]
        · rfl
      have e24 : ∀ j, (24 ≤ j ∧ j < 34) ∨ (44 ≤ j ∧ j < 49) → passF cd rd nC s r j = s j := fun j hj => by
        unfold passF
        rw [if_neg (by omega), if_neg (by omega), if_neg (fun z => by have := z.1; have := z.2.1; omega), if_neg (fun z => by have := z.1; have := z.2.1; omega)]
      rw [e34, e39, e24 (24 + c) (by omega), e24 (29 + c) (by omega), e24 (44 + c) (by omega)]
      exact ⟨g1, g2, g3, g4, g5⟩
    · rw [uS_ne S _ (Or.inl (by omega))]
      unfold passF
      rw [if_neg (by omega), if_neg (by omega), if_neg (fun z => by have := z.2.1; omega), if_neg (fun z => by have := z.2.1; omega)]
      exact hs.2.2.1
    · rw [uS_ne S _ (Or.inl (by omega))]
      have e0 : sumZ (fun c => if s (34 + c) = r ∧ comes cd rd nC s c then (1 : Int) else 0) nC.toNat = 0 := by
        rw [sumZ_congr (g := fun _ => 0) nC.toNat (fun c _ _ => by
          show (if s (34 + c) = r ∧ comes cd rd nC s c then (1 : Int) else 0) = 0
          rw [if_neg (fun z => z.2.2.1 (by rw [z.1]; exact q))])]
        have := sumZ_r (f := fun _ => (0 : Int)) (a := 0) (b := 0) nC.toNat (fun _ _ _ => ⟨Int.le_refl _, Int.le_refl _⟩)
        omega
      unfold passF
      rw [if_neg (by omega), if_pos rfl, e0, Int.add_zero]
      exact hs.2.2.2
  · have hno : ∀ c, s (34 + c) = r → ¬ s (34 + c) = -1 := fun c z => by omega
    have hPB : pBy cd rd nC s r = onPace cd rd nC s r := by
      unfold pBy
      rw [if_neg q]
    have hob : onB nC s r < 2147483648 := nat_lt_two (bits_lt _ _) (by omega)
    have go0 : am_call X aP (d + 4) 63 [.ref (iS bs), .ref ((iL bl)), .ref ((iW bw)), .int (zI r)] (mkS w (hI S) J) = am_call X aP (d + 4) 63 [.ref (iS bs), .ref ((iL bl)), .ref ((iW bw)), .int (zI r)] (mkS w (hI S) J) := rfl
    by_cases q2 : onB nC s r = 0
    · have hz : ∀ c, 0 ≤ c → c < nC → ¬ s (34 + c) = r := fun c c1 c2 z => by
        have := bits_zero q2 c c1 (by omega)
        simp only [decide_eq_false_iff_not] at this
        exact this z
      refine ⟨S, ?_, ⟨fun r' r1 r2 => ?_, fun c c1 c2 => ?_, ?_, ?_⟩, Fr_rf _ _, fun _ _ => rfl⟩
      · rw [go_X5_passOn, e_X5_passOn_0, c_rests hs a8 h50 hr ⟨v1, v2⟩]
        simp (disch := omega) only [hk, hu, hI_n, hI_un, z_nat, em_d, zl, z_add, z_sub, z_mul, z_lt, z_eq, gI_mk, gJ_mk, cI_some, cV_some, cJ_some, cI_x, cV_x, cJ_x, uS_self, uS_ne, if_pos, if_neg, b01, b01n, ite_not, if_true, if_false, hLL, q, not_false_eq_true]
        rw [c_cartersOn hL0 hs hon (by omega)]
        simp (disch := omega) only [hk, hu, hI_n, hI_un, z_nat, em_d, zl, z_add, z_sub, z_mul, z_lt, z_eq, gI_mk, gJ_mk, cI_some, cV_some, cJ_some, cI_x, cV_x, cJ_x, uS_self, uS_ne, if_pos, if_neg, b01, b01n, ite_not, if_true, if_false, hLL, z_zero hob, q2, rV_d]
      · obtain ⟨g1, g2⟩ := hs.1 r' r1 r2
        unfold passF
        rw [if_neg (show ¬ r' = 12 + r by omega), if_neg (show ¬ r' = 49 by omega), if_neg (fun z => by have := z.1; omega), if_neg (fun z => by have := z.1; omega)]
        refine ⟨g1, ?_⟩
        by_cases e : r' = r
        · subst e
          rw [if_pos rfl, if_neg q, if_pos q2, Int.add_zero]
          exact g2
        · rw [if_neg (by omega), if_neg (by omega), if_neg (fun z => by have := z.1; omega), if_neg (fun z => by have := z.1; omega)]
          exact g2
      · obtain ⟨g1, g2, g3, g4, g5⟩ := hs.2.1 c c1 c2
        have e24 : ∀ j, 24 ≤ j → j < 49 → (j < 34 + nC ∨ 39 ≤ j) → (j < 39 + nC ∨ 44 ≤ j) → passF cd rd nC s r j = s j := fun j j1 j2 j3 j4 => by
          unfold passF
          rw [if_neg (by omega), if_neg (by omega)]
          split
          · next z =>
            have := hz (j - 34) (by omega) (by omega)
            rw [show 34 + (j - 34) = j by omega] at this
            exact absurd z.2.2 this
          · split
            · next z => exact absurd z.2.2 (hz (j - 39) (by omega) (by omega))
            · rfl
        rw [e24 (24 + c) (by omega) (by omega) (by omega) (by omega), e24 (29 + c) (by omega) (by omega) (by omega) (by omega), e24 (34 + c) (by omega) (by omega) (by omega) (by omega), e24 (39 + c) (by omega) (by omega) (by omega) (by omega), e24 (44 + c) (by omega) (by omega) (by omega) (by omega)]
        exact ⟨g1, g2, g3, g4, g5⟩
      · unfold passF
        rw [if_neg (by omega), if_neg (by omega), if_neg (fun z => by have := z.2.1; omega), if_neg (fun z => by have := z.2.1; omega)]
        exact hs.2.2.1
      · have e0 : sumZ (fun c => if s (34 + c) = r ∧ comes cd rd nC s c then (1 : Int) else 0) nC.toNat = 0 := by
          rw [sumZ_congr (g := fun _ => 0) nC.toNat (fun c c1 c2 => by
            show (if s (34 + c) = r ∧ comes cd rd nC s c then (1 : Int) else 0) = 0
            rw [if_neg (fun z => hz c c1 (by omega) z.1)])]
          have := sumZ_r (f := fun _ => (0 : Int)) (a := 0) (b := 0) nC.toNat (fun _ _ _ => ⟨Int.le_refl _, Int.le_refl _⟩)
          omega
        unfold passF
        rw [if_neg (by omega), if_pos rfl, e0, Int.add_zero]
        exact hs.2.2.2
    · obtain ⟨S1, h1, h2⟩ := c_paceNow (X := X) (d := d) (w := w) (J := J) hL0 hs hon h50 hc (bw := bw) hr
      have hp := paceZ_r cd (fc (rd (4 * r + 2)) (s (12 + r)) (loadOn nC s r) (manyOn nC s r) (s 50 % 8) (dayOf (s 50)) (s 50 / 56) r)
      have hp : 0 ≤ onPace cd rd nC s r ∧ onPace cd rd nC s r ≤ 9 := hp
      have hs1 : CS nR nC S1 (iS bs) s := CS_fr hs h2 (fun i hi => by simp; omega)
      have hL1 : CL S1 (iL bl) nT nR nC rd := CL_fr hL0 h2 (fun i hi => by simp; omega)
      obtain ⟨S2, ⟨f2, f3, f4⟩, k1⟩ := loopE (fun n k T => aR X (d + 3) m_X5_passOn n 24 [some (.ref ((iS bs))), some (.ref ((iL bl))), none, some (.int (zI r)), some (.int (zI ((onPace cd rd nC s r)))), some (.int (zI k))] (0, 0) (mkS w (hI T) J)) (fun k T => Fr [iS bs, iS bs + 5, iS bs + 6] S1 T ∧ (∀ k, k ≠ 9 → T (iS bs) k = S1 (iS bs) k) ∧ CS nR nC T (iS bs) (passG cd rd nC s r k)) nC 1 (fun k T q3 q4 q5 => by
        obtain ⟨q5, q6, q7⟩ := q5
        have hLT : CL T (iL bl) nT nR nC rd := CL_fr hL1 q5 (fun i hi => by simp; omega)
        have t8 := hLT.2.2.1
        obtain ⟨-, -, tm⟩ := hLT.2.2.2.1 r hr.1 hr.2
        obtain ⟨g1, g2, g3, g4, g5⟩ := q7.2.1 k q3 q4
        have g9 := q7.2.2.2
        rw [passG_un _ _ _ _ _ _ (34 + k) (by omega)] at g3
        rw [passG_un _ _ _ _ _ _ (39 + k) (by omega)] at g4
        obtain ⟨w1, w2, w3, w4⟩ := hv.2 k q3 q4
        by_cases p1 : s (34 + k) = r
        · have hcm : comes cd rd nC s k ↔ rd (4 * r + 2) ≤ s (39 + k) + onPace cd rd nC s r := by
            unfold comes
            rw [p1, hPB]
            exact ⟨fun z => z.2.2, fun z => ⟨by omega, q, z⟩⟩
          have hgo := fun d => c_goOn (X := X) (d := d) (w := w) (J := J) (S := T) (bs := bs) (c := k) (p := onPace cd rd nC s r) (l := rd (4 * r + 2)) (by omega) (by omega) hp (by omega)
          rw [g4, g9] at hgo
          by_cases p2 : comes cd rd nC s k
          · have p3 := hcm.mp p2
            simp only [if_neg (show ¬ (s (39 + k) + onPace cd rd nC s r < rd (4 * r + 2)) by omega)] at hgo
            refine ⟨uS (uS (uS (uS T (iS bs + 6) k (s (39 + k) + onPace cd rd nC s r)) (iS bs + 5) k (-1)) (iS bs + 6) k 0) (iS bs) 9 (passG cd rd nC s r k 49 + 1), ⟨fun o ho => ?_, fun j j1 => ?_, ⟨fun r' r1 r2 => ?_, fun c c1 c2 => ?_, ?_, ?_⟩⟩, fun n hn => ?_⟩
            · have ho0 := ho
              simp only [List.mem_cons, List.not_mem_nil, or_false, not_or] at ho
              rw [uS_row _ _ _ (by omega), uS_row _ _ _ (by omega), uS_row _ _ _ (by omega), uS_row _ _ _ (by omega)]
              exact q5 o ho0
            · simp (disch := omega) only [uS_ne]
              exact q6 j j1
            · simp (disch := omega) only [uS_ne]
              obtain ⟨y1, y2⟩ := q7.1 r' r1 r2
              rw [passG_un _ _ _ _ _ _ _ (by omega)] at y1 y2 ⊢
              rw [passG_un _ _ _ _ _ _ _ (by omega)]
              exact ⟨y1, y2⟩
            · obtain ⟨y1, y2, y3, y4, y5⟩ := q7.2.1 c c1 c2
              rw [passG_un _ _ _ _ _ _ (24 + c) (by omega)] at y1 ⊢
              rw [passG_un _ _ _ _ _ _ (29 + c) (by omega)] at y2 ⊢
              rw [passG_un _ _ _ _ _ _ (44 + c) (by omega)] at y5 ⊢
              simp (disch := omega) only [passG_succ, if_neg]
              by_cases e : c = k
              · subst e
                simp (disch := omega) only [uS_self, uS_ne, if_pos, y1, y2, y5, p1, p2, and_self, if_true]
                unfold gonF
                simp only [if_pos p2, and_self]
                exact ⟨trivial, trivial, (if_pos ⟨trivial, p2⟩).symm, trivial⟩
              · simp (disch := omega) only [uS_ne, if_neg, y1, y2, y3, y4, y5, and_self]
            · simp (disch := omega) only [uS_ne]
              rw [passG_un _ _ _ _ _ _ 50 (by omega)]
              exact (q7.2.2.1).trans (passG_un _ _ _ _ _ _ 50 (by omega))
            · rw [uS_self, passG_succ _ _ _ _ _ (by omega), if_pos rfl, if_pos ⟨p1, p2⟩]
            · obtain ⟨n, rfl⟩ : ∃ n', n = n' + 1 := ⟨n - 1, by omega⟩
              refine ⟨n, by omega, ?_⟩
              show aR X (d + 3) m_X5_passOn (n + 1) 24 [some (.ref ((iS bs))), some (.ref ((iL bl))), none, some (.int (zI r)), some (.int (zI ((onPace cd rd nC s r)))), some (.int (zI k))] (0, 0) (mkS w (hI T) J) = _
              rw [e_X5_passOn_24]
              simp (disch := omega) only [hk, hu, hI_n, hI_un, z_nat, em_d, zl, z_add, z_sub, z_mul, z_lt, z_eq, gI_mk, gJ_mk, cI_some, cV_some, cJ_some, cI_x, cV_x, cJ_x, uS_self, uS_ne, if_pos, if_neg, b01, b01n, ite_not, if_true, if_false, hLL, t8, g3, p1, tm]
              rw [hgo]
              simp (disch := omega) only [hk, hu, hI_n, hI_un, z_nat, em_d, zl, z_add, z_sub, z_mul, z_lt, z_eq, gI_mk, gJ_mk, cI_some, cV_some, cJ_some, cI_x, cV_x, cJ_x, uS_self, uS_ne, if_pos, if_neg, b01, b01n, ite_not, if_true, if_false, hLL]
          · have p3 : ¬ rd (4 * r + 2) ≤ s (39 + k) + onPace cd rd nC s r := fun z => p2 (hcm.mpr z)
            simp only [if_pos (show (s (39 + k) + onPace cd rd nC s r < rd (4 * r + 2)) by omega)] at hgo
            refine ⟨uS T (iS bs + 6) k (s (39 + k) + onPace cd rd nC s r), ⟨fun o ho => ?_, fun j j1 => ?_, ⟨fun r' r1 r2 => ?_, fun c c1 c2 => ?_, ?_, ?_⟩⟩, fun n hn => ?_⟩
            · have ho0 := ho
              simp only [List.mem_cons, List.not_mem_nil, or_false, not_or] at ho
              rw [uS_row _ _ _ (by omega)]
              exact q5 o ho0
            · simp (disch := omega) only [uS_ne]
              exact q6 j j1
            · simp (disch := omega) only [uS_ne]
              obtain ⟨y1, y2⟩ := q7.1 r' r1 r2
              rw [passG_un _ _ _ _ _ _ _ (by omega)] at y1 y2 ⊢
              rw [passG_un _ _ _ _ _ _ _ (by omega)]
              exact ⟨y1, y2⟩
            · obtain ⟨y1, y2, y3, y4, y5⟩ := q7.2.1 c c1 c2
              rw [passG_un _ _ _ _ _ _ (24 + c) (by omega)] at y1 ⊢
              rw [passG_un _ _ _ _ _ _ (29 + c) (by omega)] at y2 ⊢
              rw [passG_un _ _ _ _ _ _ (44 + c) (by omega)] at y5 ⊢
              simp (disch := omega) only [passG_succ, if_neg]
              by_cases e : c = k
              · subst e
                simp (disch := omega) only [uS_self, uS_ne, if_pos, y1, y2, y5, g3, p1, p2, and_self, and_false, if_true, if_false]
                unfold gonF
                rw [if_neg p2, p1, if_pos ⟨by omega, q⟩, hPB]
                exact ⟨trivial, trivial, trivial, rfl, trivial⟩
              · simp (disch := omega) only [uS_ne, if_neg, y1, y2, y3, y4, y5, and_self]
            · simp (disch := omega) only [uS_ne]
              rw [passG_un _ _ _ _ _ _ 50 (by omega)]
              exact (q7.2.2.1).trans (passG_un _ _ _ _ _ _ 50 (by omega))
            · simp (disch := omega) only [uS_ne]
              rw [passG_succ _ _ _ _ _ (by omega), if_pos rfl, if_neg (fun z => p2 z.2), Int.add_zero]
              exact g9
            · obtain ⟨n, rfl⟩ : ∃ n', n = n' + 1 := ⟨n - 1, by omega⟩
              refine ⟨n, by omega, ?_⟩
              show aR X (d + 3) m_X5_passOn (n + 1) 24 [some (.ref ((iS bs))), some (.ref ((iL bl))), none, some (.int (zI r)), some (.int (zI ((onPace cd rd nC s r)))), some (.int (zI k))] (0, 0) (mkS w (hI T) J) = _
              rw [e_X5_passOn_24]
              simp (disch := omega) only [hk, hu, hI_n, hI_un, z_nat, em_d, zl, z_add, z_sub, z_mul, z_lt, z_eq, gI_mk, gJ_mk, cI_some, cV_some, cJ_some, cI_x, cV_x, cJ_x, uS_self, uS_ne, if_pos, if_neg, b01, b01n, ite_not, if_true, if_false, hLL, t8, g3, p1, tm]
              rw [hgo]
              simp (disch := omega) only [hk, hu, hI_n, hI_un, z_nat, em_d, zl, z_add, z_sub, z_mul, z_lt, z_eq, gI_mk, gJ_mk, cI_some, cV_some, cJ_some, cI_x, cV_x, cJ_x, uS_self, uS_ne, if_pos, if_neg, b01, b01n, ite_not, if_true, if_false, hLL]
        · refine ⟨T, ⟨q5, q6, ⟨fun r' r1 r2 => ?_, fun c c1 c2 => ?_, ?_, ?_⟩⟩, fun n hn => ?_⟩
          · obtain ⟨y1, y2⟩ := q7.1 r' r1 r2
            rw [passG_un _ _ _ _ _ _ _ (by omega)] at y1 y2 ⊢
            rw [passG_un _ _ _ _ _ _ _ (by omega)]
            exact ⟨y1, y2⟩
          · obtain ⟨y1, y2, y3, y4, y5⟩ := q7.2.1 c c1 c2
            rw [passG_un _ _ _ _ _ _ (24 + c) (by omega)] at y1 ⊢
            rw [passG_un _ _ _ _ _ _ (29 + c) (by omega)] at y2 ⊢
            rw [passG_un _ _ _ _ _ _ (44 + c) (by omega)] at y5 ⊢
            simp (disch := omega) only [passG_succ, if_neg]
            by_cases e : c = k
            · subst e
              simp (disch := omega) only [if_pos, y1, y2, y5, g3, g4, p1, false_and, and_self, if_false, if_true]
            · simp (disch := omega) only [if_neg, y1, y2, y3, y4, y5, and_self]
          · rw [passG_un _ _ _ _ _ _ 50 (by omega)]
            exact (q7.2.2.1).trans (passG_un _ _ _ _ _ _ 50 (by omega))
          · rw [passG_succ _ _ _ _ _ (by omega), if_pos rfl, if_neg (fun z => p1 z.1), Int.add_zero]
            exact g9
          · obtain ⟨n, rfl⟩ : ∃ n', n = n' + 1 := ⟨n - 1, by omega⟩
            refine ⟨n, by omega, ?_⟩
            show aR X (d + 3) m_X5_passOn (n + 1) 24 [some (.ref ((iS bs))), some (.ref ((iL bl))), none, some (.int (zI r)), some (.int (zI ((onPace cd rd nC s r)))), some (.int (zI k))] (0, 0) (mkS w (hI T) J) = _
            rw [e_X5_passOn_24]
            simp (disch := omega) only [hk, hu, hI_n, hI_un, z_nat, em_d, zl, z_add, z_sub, z_mul, z_lt, z_eq, gI_mk, gJ_mk, cI_some, cV_some, cJ_some, cI_x, cV_x, cJ_x, uS_self, uS_ne, if_pos, if_neg, b01, b01n, ite_not, if_true, if_false, hLL, t8, g3, p1, if_false]) nC.toNat 0 S1 (by omega) (by omega) ⟨Fr_rf _ _, fun _ _ => rfl, ⟨fun r' r1 r2 => by rw [passG_un _ _ _ _ _ _ _ (by omega), passG_un _ _ _ _ _ _ _ (by omega)]; exact hs1.1 r' r1 r2, fun c c1 c2 => by rw [passG_un _ _ _ _ _ _ _ (by omega), passG_un _ _ _ _ _ _ _ (by omega), passG_un _ _ _ _ _ _ _ (by omega), passG_un _ _ _ _ _ _ _ (by omega), passG_un _ _ _ _ _ _ _ (by omega)]; exact hs1.2.1 c c1 c2, by rw [passG_un _ _ _ _ _ _ _ (by omega)]; exact hs1.2.2.1, by show _ = s 49 + 0; rw [Int.add_zero]; exact hs1.2.2.2⟩⟩
      obtain ⟨n1, k2, k3⟩ := k1 9999999 (by omega)
      obtain ⟨n1, rfl⟩ : ∃ n', n1 = n' + 1 := ⟨n1 - 1, by omega⟩
      have t8 : S2 (iL bl) 8 = nC := by rw [f2 (iL bl) (by simp; omega)]; exact hL1.2.2.1
      have tt : S2 (iS bs + 2) r = s (12 + r) := by
        rw [f2 (iS bs + 2) (by simp)]
        exact (hs1.1 r hr.1 hr.2).2
      refine ⟨uS S2 (iS bs + 2) r (s (12 + r) + 1), ?_, ⟨fun r' r1 r2 => ?_, fun c c1 c2 => ?_, ?_, ?_⟩, fun o ho => ?_, fun k hk1 => ?_⟩
      · rw [go_X5_passOn, e_X5_passOn_0, c_rests hs a8 h50 hr ⟨v1, v2⟩]
        simp (disch := omega) only [hk, hu, hI_n, hI_un, z_nat, em_d, zl, z_add, z_sub, z_mul, z_lt, z_eq, gI_mk, gJ_mk, cI_some, cV_some, cJ_some, cI_x, cV_x, cJ_x, uS_self, uS_ne, if_pos, if_neg, b01, b01n, ite_not, if_true, if_false, hLL, q, not_false_eq_true]
        rw [c_cartersOn hL0 hs hon (by omega)]
        simp (disch := omega) only [hk, hu, hI_n, hI_un, z_nat, em_d, zl, z_add, z_sub, z_mul, z_lt, z_eq, gI_mk, gJ_mk, cI_some, cV_some, cJ_some, cI_x, cV_x, cJ_x, uS_self, uS_ne, if_pos, if_neg, b01, b01n, ite_not, if_true, if_false, hLL, z_zero hob, q2]
        rw [h1]
        simp (disch := omega) only [hk, hu, hI_n, hI_un, z_nat, em_d, zl, z_add, z_sub, z_mul, z_lt, z_eq, gI_mk, gJ_mk, cI_some, cV_some, cJ_some, cI_x, cV_x, cJ_x, uS_self, uS_ne, if_pos, if_neg, b01, b01n, ite_not, if_true, if_false, hLL]
        rw [k3]
        show aR X (d + 3) m_X5_passOn (n1 + 1) 24 [some (.ref ((iS bs))), some (.ref ((iL bl))), none, some (.int (zI r)), some (.int (zI ((onPace cd rd nC s r)))), some (.int (zI nC))] (0, 0) (mkS w (hI S2) J) = _
        rw [e_X5_passOn_24]
        simp (disch := omega) only [hk, hu, hI_n, hI_un, z_nat, em_d, zl, z_add, z_sub, z_mul, z_lt, z_eq, gI_mk, gJ_mk, cI_some, cV_some, cJ_some, cI_x, cV_x, cJ_x, uS_self, uS_ne, if_pos, if_neg, b01, b01n, ite_not, if_true, if_false, hLL, t8, tt, rV_d]
      · obtain ⟨y1, y2⟩ := f4.1 r' r1 r2
        rw [passG_un _ _ _ _ _ _ _ (by omega)] at y1 y2
        unfold passF
        rw [if_neg (show ¬ r' = 12 + r by omega), if_neg (show ¬ r' = 49 by omega), if_neg (fun z => by have := z.1; omega), if_neg (fun z => by have := z.1; omega), uS_ne _ _ (Or.inl (by omega))]
        refine ⟨y1, ?_⟩
        by_cases e : r' = r
        · subst e
          rw [uS_self, if_pos rfl, if_neg q, if_neg q2]
        · rw [uS_ne _ _ (Or.inr e), if_neg (by omega), if_neg (by omega), if_neg (fun z => by have := z.1; omega), if_neg (fun z => by have := z.1; omega)]
          exact y2
      · simp (disch := omega) only [uS_ne]
        have e9 : ∀ j, 24 ≤ j → j < 49 → passF cd rd nC s r j = passG cd rd nC s r nC j := fun j j1 j2 => by
          unfold passF passG
          rw [if_neg (by omega)]
        rw [e9 _ (by omega) (by omega), e9 _ (by omega) (by omega), e9 _ (by omega) (by omega), e9 _ (by omega) (by omega), e9 _ (by omega) (by omega)]
        exact f4.2.1 c c1 c2
      · rw [uS_ne _ _ (Or.inl (by omega))]
        have := f4.2.2.1
        rw [passG_un _ _ _ _ _ _ 50 (by omega)] at this
        unfold passF
        rw [if_neg (by omega), if_neg (by omega), if_neg (fun z => by have := z.2.1; omega), if_neg (fun z => by have := z.2.1; omega)]
        exact this
      · rw [uS_ne _ _ (Or.inl (by omega))]
        have := f4.2.2.2
        unfold passF
        rw [if_neg (by omega), if_pos rfl]
        exact this
      · have ho0 := ho
        simp only [List.mem_cons, List.not_mem_nil, or_false, not_or] at ho
        rw [uS_row _ _ _ (by omega), f2 o (by simp; omega), h2 o (by simp; omega)]
      · rw [uS_ne _ _ (Or.inl (by omega)), f3 k hk1, h2 (iS bs) (by simp; omega)]
end CPA
