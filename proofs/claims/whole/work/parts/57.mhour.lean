/-! THE REFERENCE: an hour, a step -/
/-- behind the second loop; while the third goes on -/
def tirF (nR nC : Int) (s : Int → Int) (k j : Int) : Int := if 12 ≤ j ∧ j < 12 + k then (if rst s (j - 12) then 0 else s j + (if onB nC s (j - 12) = 0 then 0 else 1)) else s j
def gonF (cd : List (Int × Int)) (rd : Int → Int) (nC : Int) (s : Int → Int) (c : Int) : Int := if comes cd rd nC s c then 0 else if ¬ s (34 + c) = -1 ∧ ¬ rst s (s (34 + c)) then s (39 + c) + pBy cd rd nC s (s (34 + c)) else s (39 + c)
def h3 (cd : List (Int × Int)) (rd : Int → Int) (nR nC : Int) (s : Int → Int) (k : Int) : Int → Int := fun j => if j = 49 then s 49 + cameN cd rd nC s k.toNat else if 34 ≤ j ∧ j < 34 + k then (if comes cd rd nC s (j - 34) then -1 else s j) else if 39 ≤ j ∧ j < 39 + k then gonF cd rd nC s (j - 39) else tirF nR nC s nR j
theorem h3_49 (cd : List (Int × Int)) (rd : Int → Int) (nR nC : Int) (s : Int → Int) (k : Int) : h3 cd rd nR nC s k 49 = s 49 + cameN cd rd nC s k.toNat := by
  unfold h3
  rw [if_pos rfl]
theorem h3_un (cd : List (Int × Int)) (rd : Int → Int) {nR nC : Int} (s : Int → Int) {k j : Int} (hR : nR ≤ 12) (h : (j < 12 ∨ 24 ≤ j) ∧ j ≠ 49 ∧ (j < 34 ∨ 34 + k ≤ j) ∧ (j < 39 ∨ 39 + k ≤ j)) : h3 cd rd nR nC s k j = s j := by
  unfold h3 tirF
  rw [if_neg (by omega), if_neg (by omega), if_neg (by omega), if_neg (by omega)]
theorem h3_succ (cd : List (Int × Int)) (rd : Int → Int) {nR nC : Int} (s : Int → Int) {k : Int} (hk : 0 ≤ k ∧ k < 5) (j : Int) : h3 cd rd nR nC s (k + 1) j = if j = 49 then h3 cd rd nR nC s k 49 + (if comes cd rd nC s k then 1 else 0) else if j = 34 + k then (if comes cd rd nC s k then -1 else s (34 + k)) else if j = 39 + k then gonF cd rd nC s k else h3 cd rd nR nC s k j := by
  by_cases q1 : j = 49
  · subst q1
    rw [if_pos rfl, h3_49, h3_49]
    have : (k + 1).toNat = k.toNat + 1 := by omega
    rw [this]
    show s 49 + (cameN cd rd nC s k.toNat + (if comes cd rd nC s (k.toNat : Int) then 1 else 0)) = _
    rw [Int.toNat_of_nonneg hk.1, Int.add_assoc]
  · rw [if_neg q1]
    by_cases q2 : j = 34 + k
    · rw [if_pos q2, q2]
      unfold h3
      rw [if_neg (by omega), if_pos (by omega), show 34 + k - 34 = k by omega]
    · rw [if_neg q2]
      by_cases q3 : j = 39 + k
      · rw [if_pos q3, q3]
        unfold h3
        rw [if_neg (by omega), if_neg (by omega), if_pos (by omega), show 39 + k - 39 = k by omega]
      · rw [if_neg q3]
        unfold h3
        rw [if_neg q1, if_neg q1]
        by_cases q4 : 34 ≤ j ∧ j < 34 + k
        · rw [if_pos q4, if_pos (by omega)]
        · rw [if_neg q4, if_neg (by omega)]
          by_cases q5 : 39 ≤ j ∧ j < 39 + k
          · rw [if_pos q5, if_pos (by omega)]
          · rw [if_neg q5, if_neg (by omega)]
theorem hourF_eq (cd : List (Int × Int)) (rd : Int → Int) {nR nC : Int} (s : Int → Int) (hR : 0 ≤ nR ∧ nR ≤ 12) (hC : 0 ≤ nC ∧ nC ≤ 5) (j : Int) : hourF cd rd nR nC s j = if j = 50 then s 50 + 1 else h3 cd rd nR nC s nC j := by
  unfold hourF h3 tirF gonF
  by_cases q0 : j = 50
  · rw [if_pos q0, if_pos q0]
  rw [if_neg q0, if_neg q0]
  by_cases q1 : j = 49
  · rw [if_pos q1, if_pos q1]
  rw [if_neg q1, if_neg q1]
  by_cases q2 : 12 ≤ j ∧ j < 12 + nR
  · simp only [if_pos q2, if_neg (show ¬ (34 ≤ j ∧ j < 34 + nC) by omega), if_neg (show ¬ (39 ≤ j ∧ j < 39 + nC) by omega)]
  rw [if_neg q2, if_neg q2]
  by_cases q3 : 34 ≤ j ∧ j < 34 + nC
  · rw [if_pos q3, if_pos q3]
  rw [if_neg q3, if_neg q3]
  by_cases q4 : 39 ≤ j ∧ j < 39 + nC
  · have e9 : 39 + (j - 39) = j := by omega
    simp only [if_pos q4, e9]
  · rw [if_neg q4, if_neg q4]
section MSF
variable {X : Nat × (Nat → Int32)} {d : Nat} {w : Bool × Bool × Bool} {S : Hp} {J : Nat → Nat → Int64} {nT nR nC : Int} {rd s : Int → Int} {cd : List (Int × Int)}
theorem m_dayGoes (hL : LdP S nT nR nC rd) (hs : ScP nR nC S s) (hv : Sc nR nC s) (hc : CdP S cd) : ∃ S', am_call X aP (d + 6) 209 [.ref 132] (mkS w (hI S) J) = some (.inl none, (mkS w (hI S') J)) ∧ ScP nR nC S' (hourF cd rd nR nC s) ∧ Fr [143, 144, 150, 148] S S' := by
  have hL0 := hL
  obtain ⟨a1, a2, a3, a4, a5, a6, a7, a8, a9, a10, a11⟩ := hL
  have hon := Sc_on hv a8
  have hoff : ∀ r, 0 ≤ r → r < nR → 0 ≤ s r ∧ s r < 7 := fun r q1 q2 => by
    obtain ⟨v1, v2, -⟩ := hv.1 r q1 q2
    exact ⟨v1, v2⟩
  have h50 : 0 ≤ s 50 ∧ s 50 < 100000 := by
    obtain ⟨-, -, v1, v2, -⟩ := hv
    omega
  have h49 : 0 ≤ s 49 ∧ s 49 < 1000000 := by
    obtain ⟨-, -, v1, v2, v3, v4⟩ := hv
    omega
  rw [go_X10_dayGoes, e_X10_dayGoes_0, z_0]
  -- the paces
  obtain ⟨T1, ⟨f1, g1⟩, k1⟩ := loopE (fun n k T => aR X (d + 5) m_X10_dayGoes n 2 [some (.ref 132), some (.int (zI k)), none] (0, 0) (mkS w (hI T) J)) (fun k T => Fr [143, 144, 150] S T ∧ ∀ r, 0 ≤ r → r < k → T 150 r = pBy cd rd nC s r) nR 1 (fun k T q1 q2 q3 => by
    obtain ⟨q3, q4⟩ := q3
    obtain ⟨T', h1, h2⟩ := m_paceBy (X := X) (d := d) (w := w) (J := J) (LdP_fr hL0 q3 (by decide) (by decide)) (ScP_fr hs q3 (by decide)) hon hoff h50 (CdP_fr hc q3 (by decide) (by decide) (by decide)) (r := k) (by omega)
    refine ⟨uS T' 150 k (pBy cd rd nC s k), ⟨Fr_tr q3 (Fr_tr h2 (Fr_u T' (L := [150]) _ _ (by decide)) (L := [143, 144, 150]) (by decide) (by decide)) (by decide) (by decide), fun r r1 r2 => ?_⟩, fun n hn => ?_⟩
    · by_cases e : r = k
      · rw [e, uS_self]
      · rw [uS_ne _ _ (Or.inr e), h2 150 (by decide)]
        exact q4 r r1 (by omega)
    · obtain ⟨n, rfl⟩ : ∃ n', n = n' + 1 := ⟨n - 1, by omega⟩
      refine ⟨n, by omega, ?_⟩
      show aR X (d + 5) m_X10_dayGoes (n + 1) 2 [some (.ref 132), some (.int (zI k)), none] (0, 0) (mkS w (hI T) J) = aR X (d + 5) m_X10_dayGoes n 2 [some (.ref 132), some (.int (zI ((k + 1)))), none] (0, 0) (mkS w (hI (uS T' 150 k (pBy cd rd nC s k))) J)
      have e18 : T 132 18 = nR := by rw [q3 132 (by decide), a2]
      rw [e_X10_dayGoes_2]
      simp (disch := omega) only [hk, hu, hI_n, hI_un, z_nat, em_d, zl, z_add, z_sub, z_mul, z_lt, z_eq, gI_mk, gJ_mk, cI_some, cV_some, cJ_some, cI_x, cV_x, cJ_x, uS_self, uS_ne, if_pos, if_neg, b01, b01n, ite_not, if_true, if_false, e18]
      rw [h1]
      simp (disch := omega) only [hk, hu, hI_n, hI_un, z_nat, em_d, zl, z_add, z_sub, z_mul, z_lt, z_eq, gI_mk, gJ_mk, cI_some, cV_some, cJ_some, cI_x, cV_x, cJ_x, uS_self, uS_ne, if_pos, if_neg, b01, b01n, ite_not, if_true, if_false]) nR.toNat 0 S (by omega) (by omega) ⟨Fr_rf _ _, fun r _ _ => by omega⟩
  obtain ⟨n1, k2, k3⟩ := k1 9999999 (by omega)
  rw [k3]
  obtain ⟨n1, rfl⟩ : ∃ n', n1 = n' + 1 := ⟨n1 - 1, by omega⟩
  have t18 : T1 132 18 = nR := by rw [f1 132 (by decide), a2]
  have st1 : aR X (d + 5) m_X10_dayGoes (n1 + 1) 2 [some (.ref 132), some (.int (zI nR)), none] (0, 0) (mkS w (hI T1) J) = aR X (d + 5) m_X10_dayGoes n1 17 [some (.ref 132), some (.int (zI 0)), none] (0, 0) (mkS w (hI T1) J) := by
    rw [e_X10_dayGoes_2]
    simp (disch := omega) only [hk, hu, hI_n, hI_un, z_nat, em_d, zl, z_add, z_sub, z_mul, z_lt, z_eq, gI_mk, gJ_mk, cI_some, cV_some, cJ_some, cI_x, cV_x, cJ_x, uS_self, uS_ne, if_pos, if_neg, b01, b01n, ite_not, if_true, if_false, t18]
  rw [st1]
  -- how tired
  obtain ⟨T2, ⟨f2, g2⟩, k4⟩ := loopE (fun n k T => aR X (d + 5) m_X10_dayGoes n 17 [some (.ref 132), some (.int (zI k)), none] (0, 0) (mkS w (hI T) J)) (fun k T => Fr [148] T1 T ∧ ScP nR nC T (tirF nR nC s k)) nR 1 (fun k T q1 q2 q3 => by
    obtain ⟨q3, q4⟩ := q3
    have e18 : T 132 18 = nR := by rw [q3 132 (by decide), t18]
    have b1 : ∀ j, (j < 12 ∨ 24 ≤ j) → tirF nR nC s k j = s j := fun j hj => by
      unfold tirF
      rw [if_neg (by omega)]
    have e50 := q4 50 (by unfold Vd; omega)
    rw [b1 50 (by omega)] at e50
    have ek := q4 (12 + k) (by unfold Vd; omega)
    have ek2 : tirF nR nC s k (12 + k) = s (12 + k) := by
      unfold tirF
      rw [if_neg (by omega)]
    rw [ek2] at ek
    have vk := hv.1 k q1 (by omega)
    have hL1 : LdP T nT nR nC rd := LdP_fr (LdP_fr hL0 f1 (by decide) (by decide)) q3 (by decide) (by decide)
    have hon1 : OnR nC (tirF nR nC s k) := fun c c1 c2 => by
      rw [b1 (34 + c) (by omega)]
      exact hon c c1 c2
    have fin : ∀ v, v = (if rst s k then 0 else s (12 + k) + (if onB nC s k = 0 then 0 else 1)) → Fr [148] T1 (uS T 148 (12 + k) v) ∧ ScP nR nC (uS T 148 (12 + k) v) (tirF nR nC s (k + 1)) := fun v hv9 => ⟨Fr_tr q3 (Fr_u T (L := [148]) _ _ (by decide)) (by decide) (by decide), fun j j1 => by
      by_cases e : j = 12 + k
      · rw [e, uS_self, hv9]
        unfold tirF
        rw [if_pos (show 12 ≤ 12 + k ∧ 12 + k < 12 + (k + 1) by omega), show 12 + k - 12 = k by omega]
      · rw [uS_ne _ _ (Or.inr e), q4 j j1]
        unfold tirF
        by_cases e2 : 12 ≤ j ∧ j < 12 + k
        · rw [if_pos e2, if_pos (show 12 ≤ j ∧ j < 12 + (k + 1) by omega)]
        · rw [if_neg e2, if_neg (show ¬ (12 ≤ j ∧ j < 12 + (k + 1)) by omega)]⟩
    have hoB : onB nC (tirF nR nC s k) k = onB nC s k := onB_congr (fun c _ _ => b1 _ (by omega)) _ a9
    have hr0 := fun d => m_rests (X := X) (d := d) (w := w) (J := J) a8 q4 (r := k) (h := s 50) (by omega) (by rw [b1 k (by omega)]; exact hoff k q1 (by omega)) (by omega)
    simp only [b1 k (by omega)] at hr0
    have hr1 := fun d => m_cartersOn (X := X) (d := d) (w := w) (J := J) hL1 q4 hon1 (r := k) (by omega)
    simp only [hoB] at hr1
    have hob : onB nC s k < 2147483648 := nat_lt_two (bits_lt _ _) (by omega)
    by_cases p : rst s k
    · obtain ⟨y1, y2⟩ := fin 0 (by rw [if_pos p])
      refine ⟨_, ⟨y1, y2⟩, fun n hn => ?_⟩
      obtain ⟨n, rfl⟩ : ∃ n', n = n' + 1 := ⟨n - 1, by omega⟩
      refine ⟨n, by omega, ?_⟩
      show aR X (d + 5) m_X10_dayGoes (n + 1) 17 [some (.ref 132), some (.int (zI k)), none] (0, 0) (mkS w (hI T) J) = aR X (d + 5) m_X10_dayGoes n 17 [some (.ref 132), some (.int (zI ((k + 1)))), none] (0, 0) (mkS w (hI (uS T 148 (12 + k) 0)) J)
      rw [e_X10_dayGoes_17]
      simp (disch := omega) only [hk, hu, hI_n, hI_un, z_nat, em_d, zl, z_add, z_sub, z_mul, z_lt, z_eq, gI_mk, gJ_mk, cI_some, cV_some, cJ_some, cI_x, cV_x, cJ_x, uS_self, uS_ne, if_pos, if_neg, b01, b01n, ite_not, if_true, if_false, e18, e50]
      rw [hr0]
      simp (disch := omega) only [hk, hu, hI_n, hI_un, z_nat, em_d, zl, z_add, z_sub, z_mul, z_lt, z_eq, gI_mk, gJ_mk, cI_some, cV_some, cJ_some, cI_x, cV_x, cJ_x, uS_self, uS_ne, if_pos, if_neg, b01, b01n, ite_not, if_true, if_false, p, not_true_eq_false]
    · by_cases p2 : onB nC s k = 0
      · obtain ⟨y1, y2⟩ := fin (s (12 + k) + 0) (by rw [if_neg p, if_pos p2])
        refine ⟨_, ⟨y1, y2⟩, fun n hn => ?_⟩
        obtain ⟨n, rfl⟩ : ∃ n', n = n' + 1 := ⟨n - 1, by omega⟩
        refine ⟨n, by omega, ?_⟩
        show aR X (d + 5) m_X10_dayGoes (n + 1) 17 [some (.ref 132), some (.int (zI k)), none] (0, 0) (mkS w (hI T) J) = aR X (d + 5) m_X10_dayGoes n 17 [some (.ref 132), some (.int (zI ((k + 1)))), none] (0, 0) (mkS w (hI (uS T 148 (12 + k) (s (12 + k) + 0))) J)
        rw [e_X10_dayGoes_17]
        simp (disch := omega) only [hk, hu, hI_n, hI_un, z_nat, em_d, zl, z_add, z_sub, z_mul, z_lt, z_eq, gI_mk, gJ_mk, cI_some, cV_some, cJ_some, cI_x, cV_x, cJ_x, uS_self, uS_ne, if_pos, if_neg, b01, b01n, ite_not, if_true, if_false, e18, e50]
        rw [hr0]
        simp (disch := omega) only [hk, hu, hI_n, hI_un, z_nat, em_d, zl, z_add, z_sub, z_mul, z_lt, z_eq, gI_mk, gJ_mk, cI_some, cV_some, cJ_some, cI_x, cV_x, cJ_x, uS_self, uS_ne, if_pos, if_neg, b01, b01n, ite_not, if_true, if_false, p, not_false_eq_true]
        rw [hr1]
        simp (disch := omega) only [hk, hu, hI_n, hI_un, z_nat, em_d, zl, z_add, z_sub, z_mul, z_lt, z_eq, gI_mk, gJ_mk, cI_some, cV_some, cJ_some, cI_x, cV_x, cJ_x, uS_self, uS_ne, if_pos, if_neg, b01, b01n, ite_not, if_true, if_false, z_zero hob, p2, ek]
      · obtain ⟨y1, y2⟩ := fin (s (12 + k) + 1) (by rw [if_neg p, if_neg p2])
        refine ⟨_, ⟨y1, y2⟩, fun n hn => ?_⟩
        obtain ⟨n, rfl⟩ : ∃ n', n = n' + 1 := ⟨n - 1, by omega⟩
        refine ⟨n, by omega, ?_⟩
        show aR X (d + 5) m_X10_dayGoes (n + 1) 17 [some (.ref 132), some (.int (zI k)), none] (0, 0) (mkS w (hI T) J) = aR X (d + 5) m_X10_dayGoes n 17 [some (.ref 132), some (.int (zI ((k + 1)))), none] (0, 0) (mkS w (hI (uS T 148 (12 + k) (s (12 + k) + 1))) J)
        rw [e_X10_dayGoes_17]
        simp (disch := omega) only [hk, hu, hI_n, hI_un, z_nat, em_d, zl, z_add, z_sub, z_mul, z_lt, z_eq, gI_mk, gJ_mk, cI_some, cV_some, cJ_some, cI_x, cV_x, cJ_x, uS_self, uS_ne, if_pos, if_neg, b01, b01n, ite_not, if_true, if_false, e18, e50]
        rw [hr0]
        simp (disch := omega) only [hk, hu, hI_n, hI_un, z_nat, em_d, zl, z_add, z_sub, z_mul, z_lt, z_eq, gI_mk, gJ_mk, cI_some, cV_some, cJ_some, cI_x, cV_x, cJ_x, uS_self, uS_ne, if_pos, if_neg, b01, b01n, ite_not, if_true, if_false, p, not_false_eq_true]
        rw [hr1]
        simp (disch := omega) only [hk, hu, hI_n, hI_un, z_nat, em_d, zl, z_add, z_sub, z_mul, z_lt, z_eq, gI_mk, gJ_mk, cI_some, cV_some, cJ_some, cI_x, cV_x, cJ_x, uS_self, uS_ne, if_pos, if_neg, b01, b01n, ite_not, if_true, if_false, p2, ek]) nR.toNat 0 T1 (by omega) (by omega) ⟨Fr_rf _ _, fun j j1 => by
    rw [f1 148 (by decide), hs j j1]
    unfold tirF
    rw [if_neg (by omega)]⟩
  obtain ⟨n2, k5, k6⟩ := k4 n1 (by omega)
  rw [k6]
  obtain ⟨n2, rfl⟩ : ∃ n', n2 = n' + 1 := ⟨n2 - 1, by omega⟩
  have u18 : T2 132 18 = nR := by rw [f2 132 (by decide), t18]
  have st2 : aR X (d + 5) m_X10_dayGoes (n2 + 1) 17 [some (.ref 132), some (.int (zI nR)), none] (0, 0) (mkS w (hI T2) J) = aR X (d + 5) m_X10_dayGoes n2 55 [some (.ref 132), some (.int (zI 0)), none] (0, 0) (mkS w (hI T2) J) := by
    rw [e_X10_dayGoes_17]
    simp (disch := omega) only [hk, hu, hI_n, hI_un, z_nat, em_d, zl, z_add, z_sub, z_mul, z_lt, z_eq, gI_mk, gJ_mk, cI_some, cV_some, cJ_some, cI_x, cV_x, cJ_x, uS_self, uS_ne, if_pos, if_neg, b01, b01n, ite_not, if_true, if_false, u18]
  rw [st2]
  -- carters
  have hL2 : LdP T2 nT nR nC rd := LdP_fr (LdP_fr hL0 f1 (by decide) (by decide)) f2 (by decide) (by decide)
  obtain ⟨T3, ⟨f3, g3⟩, k7⟩ := loopE (fun n k T => aR X (d + 5) m_X10_dayGoes n 55 [some (.ref 132), some (.int (zI k)), none] (0, 0) (mkS w (hI T) J)) (fun k T => Fr [148] T2 T ∧ ScP nR nC T (h3 cd rd nR nC s k)) nC 1 (fun k T q1 q2 q3 => by
    obtain ⟨q3, q4⟩ := q3
    have e19 : T 132 19 = nC := by rw [q3 132 (by decide), f2 132 (by decide), f1 132 (by decide), a3]
    have un : ∀ j, Vd nR nC j → (j < 12 ∨ 24 ≤ j) ∧ j ≠ 49 ∧ (j < 34 ∨ 34 + k ≤ j) ∧ (j < 39 ∨ 39 + k ≤ j) → T 148 j = s j := fun j j1 h9 => (q4 j j1).trans (h3_un cd rd s a8 h9)
    have e50 := un 50 (by unfold Vd; omega) (by omega)
    have e34 := un (34 + k) (by unfold Vd; omega) (by omega)
    have e39 := un (39 + k) (by unfold Vd; omega) (by omega)
    have e49 := q4 49 (by unfold Vd; omega)
    obtain ⟨-, -, -, -, v1, v2, v3, v4, -⟩ := hv.2.1 k q1 (by omega)
    have c9 : 0 ≤ h3 cd rd nR nC s k 49 ∧ h3 cd rd nR nC s k 49 < 2000000 := by
      rw [h3_49]
      have : (k.toNat : Int) * 0 ≤ cameN cd rd nC s k.toNat ∧ cameN cd rd nC s k.toNat ≤ (k.toNat : Int) * 1 := sumZ_r k.toNat (fun i _ _ => by
        show 0 ≤ (if comes cd rd nC s i then (1 : Int) else 0) ∧ (if comes cd rd nC s i then (1 : Int) else 0) ≤ 1
        split <;> omega)
      omega
    by_cases p1 : s (34 + k) = -1
    · have nc : ¬ comes cd rd nC s k := fun z => z.1 p1
      refine ⟨T, ⟨q3, fun j j1 => ?_⟩, fun n hn => ?_⟩
      · rw [h3_succ cd rd s (by omega), q4 j j1]
        have hg : gonF cd rd nC s k = s (39 + k) := by
          unfold gonF
          rw [if_neg nc, if_neg (fun z => z.1 p1)]
        rw [hg, if_neg nc, if_neg nc]
        split
        · next e => rw [e, Int.add_zero]
        · split
          · next e => rw [e, h3_un cd rd s a8 (by omega)]
          · split
            · next e => rw [e, h3_un cd rd s a8 (by omega)]
            · rfl
      · obtain ⟨n, rfl⟩ : ∃ n', n = n' + 1 := ⟨n - 1, by omega⟩
        refine ⟨n, by omega, ?_⟩
        show aR X (d + 5) m_X10_dayGoes (n + 1) 55 [some (.ref 132), some (.int (zI k)), none] (0, 0) (mkS w (hI T) J) = aR X (d + 5) m_X10_dayGoes n 55 [some (.ref 132), some (.int (zI ((k + 1)))), none] (0, 0) (mkS w (hI T) J)
        rw [e_X10_dayGoes_55]
        simp (disch := omega) only [hk, hu, hI_n, hI_un, z_nat, em_d, zl, z_add, z_sub, z_mul, z_lt, z_eq, gI_mk, gJ_mk, cI_some, cV_some, cJ_some, cI_x, cV_x, cJ_x, uS_self, uS_ne, if_pos, if_neg, b01, b01n, ite_not, if_true, if_false, e19, e34, p1]
    · have hr := hoff (s (34 + k)) (by omega) (by omega)
      have er := un (s (34 + k)) (by unfold Vd; omega) (by omega)
      have hr0 := fun d => m_rests (X := X) (d := d) (w := w) (J := J) a8 q4 (r := s (34 + k)) (h := s 50) (by omega) (by rw [h3_un cd rd s a8 (by omega)]; exact hr) (by omega)
      simp only [h3_un cd rd s a8 (show (s (34 + k) < 12 ∨ 24 ≤ s (34 + k)) ∧ s (34 + k) ≠ 49 ∧ (s (34 + k) < 34 ∨ 34 + k ≤ s (34 + k)) ∧ (s (34 + k) < 39 ∨ 39 + k ≤ s (34 + k)) by omega)] at hr0
      by_cases p2 : rst s (s (34 + k))
      · have nc : ¬ comes cd rd nC s k := fun z => z.2.1 p2
        refine ⟨T, ⟨q3, fun j j1 => ?_⟩, fun n hn => ?_⟩
        · rw [h3_succ cd rd s (by omega), q4 j j1]
          have hg : gonF cd rd nC s k = s (39 + k) := by
            unfold gonF
            rw [if_neg nc, if_neg (fun z => z.2 p2)]
          rw [hg, if_neg nc, if_neg nc]
          split
          · next e => rw [e, Int.add_zero]
          · split
            · next e => rw [e, h3_un cd rd s a8 (by omega)]
            · split
              · next e => rw [e, h3_un cd rd s a8 (by omega)]
              · rfl
        · obtain ⟨n, rfl⟩ : ∃ n', n = n' + 1 := ⟨n - 1, by omega⟩
          refine ⟨n, by omega, ?_⟩
          show aR X (d + 5) m_X10_dayGoes (n + 1) 55 [some (.ref 132), some (.int (zI k)), none] (0, 0) (mkS w (hI T) J) = aR X (d + 5) m_X10_dayGoes n 55 [some (.ref 132), some (.int (zI ((k + 1)))), none] (0, 0) (mkS w (hI T) J)
          rw [e_X10_dayGoes_55]
          simp (disch := omega) only [hk, hu, hI_n, hI_un, z_nat, em_d, zl, z_add, z_sub, z_mul, z_lt, z_eq, gI_mk, gJ_mk, cI_some, cV_some, cJ_some, cI_x, cV_x, cJ_x, uS_self, uS_ne, if_pos, if_neg, b01, b01n, ite_not, if_true, if_false, e19, e34, e50, p1]
          rw [hr0]
          simp (disch := omega) only [hk, hu, hI_n, hI_un, z_nat, em_d, zl, z_add, z_sub, z_mul, z_lt, z_eq, gI_mk, gJ_mk, cI_some, cV_some, cJ_some, cI_x, cV_x, cJ_x, uS_self, uS_ne, if_pos, if_neg, b01, b01n, ite_not, if_true, if_false, p2, not_true_eq_false]
      · have hp := pBy_r cd rd nC s (s (34 + k))
        have e150 : T 150 (s (34 + k)) = pBy cd rd nC s (s (34 + k)) := by
          rw [q3 150 (by decide), f2 150 (by decide)]
          exact g1 _ (by omega) (by omega)
        have e137 : T 137 (4 * s (34 + k) + 2) = rd (4 * s (34 + k) + 2) := by
          rw [q3 137 (by decide)]
          exact hL2.2.2.2.1 _ (by omega) (by omega)
        obtain ⟨-, -, -, -, b5, b6⟩ := a11 (s (34 + k)) (by omega) (by omega)
        by_cases p3 : rd (4 * s (34 + k) + 2) ≤ s (39 + k) + pBy cd rd nC s (s (34 + k))
        · have nc : comes cd rd nC s k := ⟨p1, p2, p3⟩
          refine ⟨uS (uS (uS (uS T 148 (39 + k) (s (39 + k) + pBy cd rd nC s (s (34 + k)))) 148 (34 + k) (-1)) 148 (39 + k) 0) 148 49 (h3 cd rd nR nC s k 49 + 1), ⟨fun o ho => ?_, fun j j1 => ?_⟩, fun n hn => ?_⟩
          · have h8 : o ≠ 148 := fun z => ho (z ▸ List.mem_singleton.mpr rfl)
            rw [uS_row _ _ _ h8, uS_row _ _ _ h8, uS_row _ _ _ h8, uS_row _ _ _ h8]
            exact q3 o ho
          · rw [h3_succ cd rd s (by omega)]
            have hg : gonF cd rd nC s k = 0 := by
              unfold gonF
              rw [if_pos nc]
            rw [hg, if_pos nc, if_pos nc]
            simp only [uS_at, true_and]
            by_cases z1 : j = 49
            · rw [if_pos z1, if_pos z1]
            · rw [if_neg z1, if_neg z1]
              by_cases z2 : j = 39 + k
              · rw [if_pos z2, if_neg (by omega), if_pos z2]
              · rw [if_neg z2]
                by_cases z3 : j = 34 + k
                · rw [if_pos z3, if_pos z3]
                · rw [if_neg z3, if_neg z3, if_neg z2, if_neg z2]
                  exact q4 j j1
          · obtain ⟨n, rfl⟩ : ∃ n', n = n' + 1 := ⟨n - 1, by omega⟩
            refine ⟨n, by omega, ?_⟩
            show aR X (d + 5) m_X10_dayGoes (n + 1) 55 [some (.ref 132), some (.int (zI k)), none] (0, 0) (mkS w (hI T) J) = aR X (d + 5) m_X10_dayGoes n 55 [some (.ref 132), some (.int (zI ((k + 1)))), none] (0, 0) (mkS w (hI (uS (uS (uS (uS T 148 (39 + k) (s (39 + k) + pBy cd rd nC s (s (34 + k)))) 148 (34 + k) (-1)) 148 (39 + k) 0) 148 49 (h3 cd rd nR nC s k 49 + 1))) J)
            rw [e_X10_dayGoes_55]
            simp (disch := omega) only [hk, hu, hI_n, hI_un, z_nat, em_d, zl, z_add, z_sub, z_mul, z_lt, z_eq, gI_mk, gJ_mk, cI_some, cV_some, cJ_some, cI_x, cV_x, cJ_x, uS_self, uS_ne, if_pos, if_neg, b01, b01n, ite_not, if_true, if_false, e19, e34, e50, p1]
            rw [hr0]
            simp (disch := omega) only [hk, hu, hI_n, hI_un, z_nat, em_d, zl, z_add, z_sub, z_mul, z_lt, z_eq, gI_mk, gJ_mk, cI_some, cV_some, cJ_some, cI_x, cV_x, cJ_x, uS_self, uS_ne, if_pos, if_neg, b01, b01n, ite_not, if_true, if_false, p2, not_false_eq_true, e39, e150, e137, e49]
        · have nc : ¬ comes cd rd nC s k := fun z => p3 z.2.2
          refine ⟨uS T 148 (39 + k) (s (39 + k) + pBy cd rd nC s (s (34 + k))), ⟨Fr_tr q3 (Fr_u T (L := [148]) _ _ (by decide)) (by decide) (by decide), fun j j1 => ?_⟩, fun n hn => ?_⟩
          · rw [h3_succ cd rd s (by omega)]
            have hg : gonF cd rd nC s k = s (39 + k) + pBy cd rd nC s (s (34 + k)) := by
              unfold gonF
              rw [if_neg nc, if_pos ⟨p1, p2⟩]
            rw [hg, if_neg nc, if_neg nc]
            simp only [uS_at, true_and]
            by_cases z1 : j = 49
            · rw [if_neg (by omega), if_pos z1, z1, Int.add_zero]
              exact e49
            · by_cases z2 : j = 39 + k
              · rw [if_pos z2, if_neg z1, if_neg (by omega), if_pos z2]
              · rw [if_neg z2, if_neg z1]
                by_cases z3 : j = 34 + k
                · rw [if_pos z3, z3]
                  exact e34
                · rw [if_neg z3, if_neg z2]
                  exact q4 j j1
          · obtain ⟨n, rfl⟩ : ∃ n', n = n' + 1 := ⟨n - 1, by omega⟩
            refine ⟨n, by omega, ?_⟩
            show aR X (d + 5) m_X10_dayGoes (n + 1) 55 [some (.ref 132), some (.int (zI k)), none] (0, 0) (mkS w (hI T) J) = aR X (d + 5) m_X10_dayGoes n 55 [some (.ref 132), some (.int (zI ((k + 1)))), none] (0, 0) (mkS w (hI (uS T 148 (39 + k) (s (39 + k) + pBy cd rd nC s (s (34 + k))))) J)
            rw [e_X10_dayGoes_55]
            simp (disch := omega) only [hk, hu, hI_n, hI_un, z_nat, em_d, zl, z_add, z_sub, z_mul, z_lt, z_eq, gI_mk, gJ_mk, cI_some, cV_some, cJ_some, cI_x, cV_x, cJ_x, uS_self, uS_ne, if_pos, if_neg, b01, b01n, ite_not, if_true, if_false, e19, e34, e50, p1]
            rw [hr0]
            simp (disch := omega) only [hk, hu, hI_n, hI_un, z_nat, em_d, zl, z_add, z_sub, z_mul, z_lt, z_eq, gI_mk, gJ_mk, cI_some, cV_some, cJ_some, cI_x, cV_x, cJ_x, uS_self, uS_ne, if_pos, if_neg, b01, b01n, ite_not, if_true, if_false, p2, not_false_eq_true, e39, e150, e137]) nC.toNat 0 T2 (by omega) (by omega) ⟨Fr_rf _ _, fun j j1 => by
    rw [g2 j j1]
    unfold h3
    by_cases z1 : j = 49
    · rw [if_pos z1, z1]
      unfold tirF
      rw [if_neg (by omega)]
      show s 49 = s 49 + 0
      omega
    · rw [if_neg z1, if_neg (by omega), if_neg (by omega)]⟩
  obtain ⟨n3, k8, k9⟩ := k7 n2 (by omega)
  rw [k9]
  obtain ⟨n3, rfl⟩ : ∃ n', n3 = n' + 1 := ⟨n3 - 1, by omega⟩
  have w19 : T3 132 19 = nC := by rw [f3 132 (by decide), f2 132 (by decide), f1 132 (by decide), a3]
  have w50 := (g3 50 (by unfold Vd; omega)).trans (h3_un cd rd s a8 (by omega))
  refine ⟨uS T3 148 50 (s 50 + 1), ?_, fun j j1 => ?_, Fr_tr (Fr_tr f1 (Fr_tr f2 f3 (L := [148]) (by decide) (by decide)) (L := [143, 144, 150, 148]) (by decide) (by decide)) (Fr_u T3 (L := [148]) _ _ (by decide)) (by decide) (by decide)⟩
  · show aR X (d + 5) m_X10_dayGoes (n3 + 1) 55 [some (.ref 132), some (.int (zI nC)), none] (0, 0) (mkS w (hI T3) J) = _
    rw [e_X10_dayGoes_55]
    simp (disch := omega) only [hk, hu, hI_n, hI_un, z_nat, em_d, zl, z_add, z_sub, z_mul, z_lt, z_eq, gI_mk, gJ_mk, cI_some, cV_some, cJ_some, cI_x, cV_x, cJ_x, uS_self, uS_ne, if_pos, if_neg, b01, b01n, ite_not, if_true, if_false, w19, w50, rV_d]
  · rw [hourF_eq cd rd s ⟨a7, a8⟩ ⟨a9, a10⟩]
    by_cases z : j = 50
    · rw [z, uS_self, if_pos rfl]
    · rw [uS_ne _ _ (Or.inr z), if_neg z]
      exact g3 j j1
end MSF
