/-! PART on the reference, and both sides' calls; MEND -/
section PR2
variable {X : Nat × (Nat → Int32)} {d : Nat} {w : Bool × Bool × Bool} {S : Hp} {J : Nat → Nat → Int64} {nT nR nC : Int} {rd s : Int → Int}
theorem xand_lt {a b n : Nat} (h : a < 2 ^ n) (h2 : b < 2 ^ n) : a ^^^ (a &&& b) < 2 ^ n := Nat.xor_lt_two_pow h (Nat.lt_of_le_of_lt Nat.and_le_left h)
theorem xand_31 {a b : Nat} (h : a < 2147483648) : a ^^^ (a &&& b) < 2147483648 := Nat.xor_lt_two_pow (n := 31) h (Nat.lt_of_le_of_lt Nat.and_le_left h)
theorem ml_set (hL : LdP S nT nR nC rd) (hE : Ends nT nR rd) {G : Nat} (hG : G < 2147483648) {t o : Int} (ht : 0 ≤ t ∧ t < nT) (ho : 0 ≤ o ∧ o < nT) : ∀ (j k f : Nat) (few : Int), k + j = 2 ^ nR.toNat → 0 ≤ few ∧ few ≤ 12 → aR X (d + 2) m_X10_part (f + j + 1) 37 [some (.ref 132), some (.int (zI t)), some (.int (zI o)), none, some (.int (zI ((G : Int)))), some (.int (zI few)), some (.int (zI ((k : Int))))] (0, 0) (mkS w (hI S) J) = some (.inl (some (.int (zI (fewF (sepR rd nT nR G t o) popc j k few)))), (mkS w (hI S) J))
  | 0, k, f, few, h, hf => by
    obtain ⟨a1, a2, -, -, a5, a6, a7, a8, -⟩ := id hL
    have hp2 : 2 ^ nR.toNat ≤ 2 ^ 12 := Nat.pow_le_pow_right (by decide) (by omega)
    rw [e_X10_part_37]
    simp (disch := omega) only [hk, hu, hI_n, hI_un, z_nat, em_d, zl, z_add, z_sub, z_mul, z_lt, z_eq, gI_mk, gJ_mk, cI_some, cV_some, cJ_some, cI_x, cV_x, cJ_x, uS_self, uS_ne, if_pos, if_neg, b01, b01n, ite_not, if_true, if_false, a2, z_shl1, rI_d]
    rfl
  | j + 1, k, f, few, h, hf => by
    obtain ⟨a1, a2, -, -, a5, a6, a7, a8, -⟩ := id hL
    have hp2 : 2 ^ nR.toNat ≤ 2 ^ 12 := Nat.pow_le_pow_right (by decide) (by omega)
    have hkb : k < 2147483648 := by omega
    have hx1 : k ^^^ (k &&& G) < 2147483648 := xand_31 hkb
    have hx2 : G ^^^ (G &&& k) < 2147483648 := xand_31 hG
    have hp := popc_nn k
    have hm0 : 2 ^ t.toNat < 2 ^ nT.toNat := Nat.pow_lt_pow_right (by decide) (by omega)
    have hr2 : reachM rd nT nR (G ^^^ (G &&& k)) t < 2147483648 := nat_lt_two (jrun_lt hE a7 hm0 _) (by omega)
    have hon := fun d => m_ones (X := X) (d := d) (w := w) (S := S) (J := J) hkb
    have hca := fun d => m_cameTo (X := X) (d := d) (w := w) (S := S) (J := J) hL hE ht hx2
    have ef : fewF (sepR rd nT nR G t o) popc (j + 1) k few = fewF (sepR rd nT nR G t o) popc j (k + 1) (if sepR rd nT nR G t o k then min few (popc k) else few) := rfl
    have ek : ((k + 1 : Nat) : Int) = (k : Int) + 1 := by omega
    have ih1 := ml_set hL hE hG ht ho j (k + 1) f few (by omega) hf
    have ih2 := ml_set hL hE hG ht ho j (k + 1) f (min few (popc k)) (by omega) (by omega)
    rw [ek] at ih1 ih2
    rw [ef, show f + (j + 1) + 1 = (f + j + 1) + 1 by omega, e_X10_part_37]
    by_cases p1 : k ^^^ (k &&& G) = 0
    · by_cases p2 : popc k < few
      · rw [show min few (popc k) = popc k by omega] at ih2 ⊢
        by_cases p3 : (reachM rd nT nR (G ^^^ (G &&& k)) t).testBit o.toNat = true
        · rw [if_neg (fun z : sepR rd nT nR G t o k => z.2 p3)]
          simp (disch := omega) only [hk, hu, hI_n, hI_un, z_nat, em_d, zl, z_add, z_sub, z_mul, z_lt, z_eq, gI_mk, gJ_mk, cI_some, cV_some, cJ_some, cI_x, cV_x, cJ_x, uS_self, uS_ne, if_pos, if_neg, b01, b01n, ite_not, if_true, if_false, a2, z_shl1, z_andn, z_zero hx1, p1]
          rw [hon]
          simp (disch := omega) only [hk, hu, hI_n, hI_un, z_nat, em_d, zl, z_add, z_sub, z_mul, z_lt, z_eq, gI_mk, gJ_mk, cI_some, cV_some, cJ_some, cI_x, cV_x, cJ_x, uS_self, uS_ne, if_pos, if_neg, b01, b01n, ite_not, if_true, if_false]
          rw [hca]
          simp (disch := omega) only [hk, hu, hI_n, hI_un, z_nat, em_d, zl, z_add, z_sub, z_mul, z_lt, z_eq, gI_mk, gJ_mk, cI_some, cV_some, cJ_some, cI_x, cV_x, cJ_x, uS_self, uS_ne, if_pos, if_neg, b01, b01n, ite_not, if_true, if_false, z_bit hr2, p3]
          exact ih1
        · rw [if_pos (show sepR rd nT nR G t o k from ⟨p1, p3⟩)]
          simp (disch := omega) only [hk, hu, hI_n, hI_un, z_nat, em_d, zl, z_add, z_sub, z_mul, z_lt, z_eq, gI_mk, gJ_mk, cI_some, cV_some, cJ_some, cI_x, cV_x, cJ_x, uS_self, uS_ne, if_pos, if_neg, b01, b01n, ite_not, if_true, if_false, a2, z_shl1, z_andn, z_zero hx1, p1]
          rw [hon]
          simp (disch := omega) only [hk, hu, hI_n, hI_un, z_nat, em_d, zl, z_add, z_sub, z_mul, z_lt, z_eq, gI_mk, gJ_mk, cI_some, cV_some, cJ_some, cI_x, cV_x, cJ_x, uS_self, uS_ne, if_pos, if_neg, b01, b01n, ite_not, if_true, if_false]
          rw [hca]
          simp (disch := omega) only [hk, hu, hI_n, hI_un, z_nat, em_d, zl, z_add, z_sub, z_mul, z_lt, z_eq, gI_mk, gJ_mk, cI_some, cV_some, cJ_some, cI_x, cV_x, cJ_x, uS_self, uS_ne, if_pos, if_neg, b01, b01n, ite_not, if_true, if_false, z_bit hr2, p3]
          rw [hon]
          simp (disch := omega) only [hk, hu, hI_n, hI_un, z_nat, em_d, zl, z_add, z_sub, z_mul, z_lt, z_eq, gI_mk, gJ_mk, cI_some, cV_some, cJ_some, cI_x, cV_x, cJ_x, uS_self, uS_ne, if_pos, if_neg, b01, b01n, ite_not, if_true, if_false]
          exact ih2
      · rw [show (if sepR rd nT nR G t o k then min few (popc k) else few) = few by split <;> omega]
        simp (disch := omega) only [hk, hu, hI_n, hI_un, z_nat, em_d, zl, z_add, z_sub, z_mul, z_lt, z_eq, gI_mk, gJ_mk, cI_some, cV_some, cJ_some, cI_x, cV_x, cJ_x, uS_self, uS_ne, if_pos, if_neg, b01, b01n, ite_not, if_true, if_false, a2, z_shl1, z_andn, z_zero hx1, p1]
        rw [hon]
        simp (disch := omega) only [hk, hu, hI_n, hI_un, z_nat, em_d, zl, z_add, z_sub, z_mul, z_lt, z_eq, gI_mk, gJ_mk, cI_some, cV_some, cJ_some, cI_x, cV_x, cJ_x, uS_self, uS_ne, if_pos, if_neg, b01, b01n, ite_not, if_true, if_false]
        exact ih1
    · rw [if_neg (fun z : sepR rd nT nR G t o k => p1 z.1)]
      simp (disch := omega) only [hk, hu, hI_n, hI_un, z_nat, em_d, zl, z_add, z_sub, z_mul, z_lt, z_eq, gI_mk, gJ_mk, cI_some, cV_some, cJ_some, cI_x, cV_x, cJ_x, uS_self, uS_ne, if_pos, if_neg, b01, b01n, ite_not, if_true, if_false, a2, z_shl1, z_andn, z_zero hx1, p1]
      exact ih1
def partA (rd : Int → Int) (nT nR : Int) (s : Int → Int) (t o day : Int) : Int := if t = o then -1 else partV rd nT nR (goB nR s day) t o
theorem m_part (hL : LdP S nT nR nC rd) (hE : Ends nT nR rd) (hn : NwP nR nC S s) (hv : Sc nR nC s) {t o day : Int} (ht : 0 ≤ t ∧ t < nT) (ho : 0 ≤ o ∧ o < nT) (hd : 0 ≤ day ∧ day < 7) : ∃ S', am_call X aP (d + 3) 240 [.ref 132, .int (zI t), .int (zI o), .int (zI day)] (mkS w (hI S) J) = some (.inl (some (.int (zI (partA rd nT nR s t o day)))), (mkS w (hI S') J)) ∧ QuM S S' := by
  have hq0 := QuM_0 S
  have hL1 := LdP_q hL hq0
  obtain ⟨-, -, -, -, a5, a6, a7, a8, a9, a10, a11⟩ := id hL
  have hi1 := fun d => m_isTown1 (X := X) (d := d) (w := w) (J := J) hL1 (uS_self _ _ _ _) ht
  have hi2 := fun d => m_isTown1 (X := X) (d := d) (w := w) (J := J) hL1 (uS_self _ _ _ _) ho
  by_cases e : t = o
  · refine ⟨uS S 132 0 0, ?_, hq0⟩
    unfold partA
    rw [if_pos e, go_X10_part, e_X10_part_0, z_0, hu.1, hi1]
    simp (disch := omega) only [hk, hu, hI_n, hI_un, z_nat, em_d, zl, z_add, z_sub, z_mul, z_lt, z_eq, gI_mk, gJ_mk, cI_some, cV_some, cJ_some, cI_x, cV_x, cJ_x, uS_self, uS_ne, if_pos, if_neg, b01, b01n, ite_not, if_true, if_false]
    rw [← e, hi1]
    simp (disch := omega) only [hk, hu, hI_n, hI_un, z_nat, em_d, zl, z_add, z_sub, z_mul, z_lt, z_eq, gI_mk, gJ_mk, cI_some, cV_some, cJ_some, cI_x, cV_x, cJ_x, uS_self, uS_ne, if_pos, if_neg, b01, b01n, ite_not, if_true, if_false, m_within]
    rw [m_may1 (uS_self _ _ _ _)]
    simp (disch := omega) only [hk, hu, hI_n, hI_un, z_nat, em_d, zl, z_add, z_sub, z_mul, z_lt, z_eq, gI_mk, gJ_mk, cI_some, cV_some, cJ_some, cI_x, cV_x, cJ_x, uS_self, uS_ne, if_pos, if_neg, b01, b01n, ite_not, if_true, if_false, rI_d]
  · obtain ⟨S1, h1, h2, h3⟩ := m_takeP (X := X) (d := d) (w := w) (J := J) (NwP_q hn hq0) a8 a10
    have hq1 := QuM_fr hq0 h3 (by decide) (by decide)
    have hL2 := LdP_q hL hq1
    have hgo := fun d => m_goingOn (X := X) (d := d) (w := w) (J := J) hL2 h2 (fun r r1 r2 => (Sc_w hv).1 r r1 r2) hd
    have hp2 : 2 ^ nR.toNat ≤ 2 ^ 12 := Nat.pow_le_pow_right (by decide) (by omega)
    have hs := ml_set (X := X) (d := d) (w := w) (J := J) hL2 hE (goB_lt nR s day a8) ht ho (2 ^ nR.toNat) 0 (9999999 - 2 ^ nR.toNat - 1) 12 (by omega) (by decide)
    rw [show 9999999 - 2 ^ nR.toNat - 1 + 2 ^ nR.toNat + 1 = 9999999 by omega, ← partV_eq hE ⟨a5, a6⟩ ⟨a7, a8⟩ (show goB nR s day < 2 ^ nR.toNat from bits_lt _ _) ht] at hs
    refine ⟨S1, ?_, hq1⟩
    unfold partA
    rw [if_neg e, go_X10_part, e_X10_part_0, z_0, hu.1, hi1]
    simp (disch := omega) only [hk, hu, hI_n, hI_un, z_nat, em_d, zl, z_add, z_sub, z_mul, z_lt, z_eq, gI_mk, gJ_mk, cI_some, cV_some, cJ_some, cI_x, cV_x, cJ_x, uS_self, uS_ne, if_pos, if_neg, b01, b01n, ite_not, if_true, if_false]
    rw [hi2]
    simp (disch := omega) only [hk, hu, hI_n, hI_un, z_nat, em_d, zl, z_add, z_sub, z_mul, z_lt, z_eq, gI_mk, gJ_mk, cI_some, cV_some, cJ_some, cI_x, cV_x, cJ_x, uS_self, uS_ne, if_pos, if_neg, b01, b01n, ite_not, if_true, if_false, m_within]
    rw [m_may1 (uS_self _ _ _ _)]
    simp (disch := omega) only [hk, hu, hI_n, hI_un, z_nat, em_d, zl, z_add, z_sub, z_mul, z_lt, z_eq, gI_mk, gJ_mk, cI_some, cV_some, cJ_some, cI_x, cV_x, cJ_x, uS_self, uS_ne, if_pos, if_neg, b01, b01n, ite_not, if_true, if_false]
    rw [h1]
    simp (disch := omega) only [hk, hu, hI_n, hI_un, z_nat, em_d, zl, z_add, z_sub, z_mul, z_lt, z_eq, gI_mk, gJ_mk, cI_some, cV_some, cJ_some, cI_x, cV_x, cJ_x, uS_self, uS_ne, if_pos, if_neg, b01, b01n, ite_not, if_true, if_false]
    rw [hgo]
    simp (disch := omega) only [hk, hu, hI_n, hI_un, z_nat, em_d, zl, z_add, z_sub, z_mul, z_lt, z_eq, gI_mk, gJ_mk, cI_some, cV_some, cJ_some, cI_x, cV_x, cJ_x, uS_self, uS_ne, if_pos, if_neg, b01, b01n, ite_not, if_true, if_false]
    exact hs
theorem m_partN (hL : LdP S nT nR nC rd) {t o day : Int} (hb : -2147483648 ≤ t ∧ t < 2147483648) (hb2 : -2147483648 ≤ o ∧ o < 2147483648) (hn : ¬ ((0 ≤ t ∧ t < nT) ∧ 0 ≤ o ∧ o < nT)) : am_call X aP (d + 3) 240 [.ref 132, .int (zI t), .int (zI o), .int (zI day)] (mkS w (hI S) J) = some (.inl (some (.int (zI 0))), (mkS w (hI (mxN S)) J)) := by
  have hL1 := LdP_q hL (QuM_0 S)
  rw [go_X10_part, e_X10_part_0, z_0, hu.1]
  by_cases q : 0 ≤ t ∧ t < nT
  · rw [m_isTown1 hL1 (uS_self _ _ _ _) q]
    simp (disch := omega) only [hk, hu, hI_n, hI_un, z_nat, em_d, zl, z_add, z_sub, z_mul, z_lt, z_eq, gI_mk, gJ_mk, cI_some, cV_some, cJ_some, cI_x, cV_x, cJ_x, uS_self, uS_ne, if_pos, if_neg, b01, b01n, ite_not, if_true, if_false]
    rw [m_isTown0 hL1 (uS_self _ _ _ _) hb2 (fun z => hn ⟨q, z⟩)]
    simp (disch := omega) only [hk, hu, hI_n, hI_un, z_nat, em_d, zl, z_add, z_sub, z_mul, z_lt, z_eq, gI_mk, gJ_mk, cI_some, cV_some, cJ_some, cI_x, cV_x, cJ_x, uS_self, uS_ne, if_pos, if_neg, b01, b01n, ite_not, if_true, if_false, rI_d]
    rfl
  · rw [m_isTown0 hL1 (uS_self _ _ _ _) hb q]
    simp (disch := omega) only [hk, hu, hI_n, hI_un, z_nat, em_d, zl, z_add, z_sub, z_mul, z_lt, z_eq, gI_mk, gJ_mk, cI_some, cV_some, cJ_some, cI_x, cV_x, cJ_x, uS_self, uS_ne, if_pos, if_neg, b01, b01n, ite_not, if_true, if_false, rI_d]
    rfl
theorem m_partB (hL : LdP S nT nR nC rd) {t o day : Int} (ht : 0 ≤ t ∧ t < nT) (ho : 0 ≤ o ∧ o < nT) (hb : -2147483648 ≤ day ∧ day < 2147483648) (hd : ¬ (0 ≤ day ∧ day < 7)) : am_call X aP (d + 3) 240 [.ref 132, .int (zI t), .int (zI o), .int (zI day)] (mkS w (hI S) J) = some (.inl (some (.int (zI 0))), (mkS w (hI (mxB S 2)) J)) := by
  have hL1 := LdP_q hL (QuM_0 S)
  have hi1 := fun d => m_isTown1 (X := X) (d := d) (w := w) (J := J) hL1 (uS_self _ _ _ _) ht
  have hi2 := fun d => m_isTown1 (X := X) (d := d) (w := w) (J := J) hL1 (uS_self _ _ _ _) ho
  rw [go_X10_part, e_X10_part_0, z_0, hu.1, hi1]
  simp (disch := omega) only [hk, hu, hI_n, hI_un, z_nat, em_d, zl, z_add, z_sub, z_mul, z_lt, z_eq, gI_mk, gJ_mk, cI_some, cV_some, cJ_some, cI_x, cV_x, cJ_x, uS_self, uS_ne, if_pos, if_neg, b01, b01n, ite_not, if_true, if_false]
  rw [hi2]
  simp (disch := omega) only [hk, hu, hI_n, hI_un, z_nat, em_d, zl, z_add, z_sub, z_mul, z_lt, z_eq, gI_mk, gJ_mk, cI_some, cV_some, cJ_some, cI_x, cV_x, cJ_x, uS_self, uS_ne, if_pos, if_neg, b01, b01n, ite_not, if_true, if_false, m_within]
  rw [m_may0 (uS_self _ _ _ _) (by decide) (by decide)]
  simp (disch := omega) only [hk, hu, hI_n, hI_un, z_nat, em_d, zl, z_add, z_sub, z_mul, z_lt, z_eq, gI_mk, gJ_mk, cI_some, cV_some, cJ_some, cI_x, cV_x, cJ_x, uS_self, uS_ne, if_pos, if_neg, b01, b01n, ite_not, if_true, if_false, rI_d]
  rfl
theorem c_part (hL : CL S (iL w.1) nT nR nC rd) (hs : CS nR nC S 8 s) (hv : Sc nR nC s) {t o day : Int} (ht : 0 ≤ t ∧ t < nT) (ho : 0 ≤ o ∧ o < nT) (hd : 0 ≤ day ∧ day < 7) : am_call X aP (d + 3) 122 [.ref 0, .int (zI t), .int (zI o), .int (zI day)] (mkS w (hI S) J) = some (.inl (some (.int (zI (partA rd nT nR s t o day)))), (mkS w (hI S) J)) := by
  have a6 := hL.2.2.2.2.2.1
  have a8 := hL.2.2.2.2.2.2.2.1
  have hg := fun d => c_going (X := X) (d := d) (w := w) (J := J) (bs := false) hL hs (fun r r1 r2 => (Sc_w hv).1 r r1 r2) hd
  have hf := fun d => c_fewest (X := X) (d := d) (w := w) (J := J) hL (goB_lt nR s day a8) ht ho
  rw [go_X9_part, e_X9_part_0]
  simp (disch := omega) only [hk, hu, hI_n, hI_un, z_nat, em_d, zl, z_add, z_sub, z_mul, z_lt, z_eq, gI_mk, gJ_mk, cI_some, cV_some, cJ_some, cI_x, cV_x, cJ_x, uS_self, uS_ne, if_pos, if_neg, b01, b01n, ite_not, if_true, if_false, c_town1 hL ht]
  rw [show 9999999 = 9999998 + 1 from rfl, e_X9_part_3]
  simp (disch := omega) only [hk, hu, hI_n, hI_un, z_nat, em_d, zl, z_add, z_sub, z_mul, z_lt, z_eq, gI_mk, gJ_mk, cI_some, cV_some, cJ_some, cI_x, cV_x, cJ_x, uS_self, uS_ne, if_pos, if_neg, b01, b01n, ite_not, if_true, if_false, c_town1 hL ho]
  rw [show 9999998 = 9999997 + 1 from rfl, e_X9_part_6]
  simp (disch := omega) only [hk, hu, hI_n, hI_un, z_nat, em_d, zl, z_add, z_sub, z_mul, z_lt, z_eq, gI_mk, gJ_mk, cI_some, cV_some, cJ_some, cI_x, cV_x, cJ_x, uS_self, uS_ne, if_pos, if_neg, b01, b01n, ite_not, if_true, if_false, c_wd1 hd]
  rw [show 9999997 = 9999996 + 1 from rfl, e_X9_part_9]
  unfold partA
  by_cases e : t = o
  · simp (disch := omega) only [hk, hu, hI_n, hI_un, z_nat, em_d, zl, z_add, z_sub, z_mul, z_lt, z_eq, gI_mk, gJ_mk, cI_some, cV_some, cJ_some, cI_x, cV_x, cJ_x, uS_self, uS_ne, if_pos, if_neg, b01, b01n, ite_not, if_true, if_false, e, rI_d]
  · simp (disch := omega) only [hk, hu, hI_n, hI_un, z_nat, em_d, zl, z_add, z_sub, z_mul, z_lt, z_eq, gI_mk, gJ_mk, cI_some, cV_some, cJ_some, cI_x, cV_x, cJ_x, uS_self, uS_ne, if_pos, if_neg, b01, b01n, ite_not, if_true, if_false, e]
    refine (congrArg (fun z => cI z _ _) (hg _)).trans ?_
    simp (disch := omega) only [hk, hu, hI_n, hI_un, z_nat, em_d, zl, z_add, z_sub, z_mul, z_lt, z_eq, gI_mk, gJ_mk, cI_some, cV_some, cJ_some, cI_x, cV_x, cJ_x, uS_self, uS_ne, if_pos, if_neg, b01, b01n, ite_not, if_true, if_false]
    rw [hf]
    simp (disch := omega) only [hk, hu, hI_n, hI_un, z_nat, em_d, zl, z_add, z_sub, z_mul, z_lt, z_eq, gI_mk, gJ_mk, cI_some, cV_some, cJ_some, cI_x, cV_x, cJ_x, uS_self, uS_ne, if_pos, if_neg, b01, b01n, ite_not, if_true, if_false, rI_d]
theorem c_partN (hL : CL S (iL w.1) nT nR nC rd) {t o day : Int} (hb : -2147483648 ≤ t ∧ t < 2147483648) (hb2 : -2147483648 ≤ o ∧ o < 2147483648) (hn : ¬ ((0 ≤ t ∧ t < nT) ∧ 0 ≤ o ∧ o < nT)) : am_call X aP (d + 3) 122 [.ref 0, .int (zI t), .int (zI o), .int (zI day)] (mkS w (hI S) J) = some (.inr 1, (mkS w (hI (xnS S)) J)) := by
  rw [go_X9_part, e_X9_part_0]
  by_cases q : 0 ≤ t ∧ t < nT
  · simp (disch := omega) only [hk, hu, hI_n, hI_un, z_nat, em_d, zl, z_add, z_sub, z_mul, z_lt, z_eq, gI_mk, gJ_mk, cI_some, cV_some, cJ_some, cI_x, cV_x, cJ_x, uS_self, uS_ne, if_pos, if_neg, b01, b01n, ite_not, if_true, if_false, c_town1 hL q]
    rw [show 9999999 = 9999998 + 1 from rfl, e_X9_part_3]
    simp (disch := omega) only [hk, hu, hI_n, hI_un, z_nat, em_d, zl, z_add, z_sub, z_mul, z_lt, z_eq, gI_mk, gJ_mk, cI_some, cV_some, cJ_some, cI_x, cV_x, cJ_x, uS_self, uS_ne, if_pos, if_neg, b01, b01n, ite_not, if_true, if_false, c_town0 hL hb2 (fun z => hn ⟨q, z⟩), rX_d]
  · simp (disch := omega) only [hk, hu, hI_n, hI_un, z_nat, em_d, zl, z_add, z_sub, z_mul, z_lt, z_eq, gI_mk, gJ_mk, cI_some, cV_some, cJ_some, cI_x, cV_x, cJ_x, uS_self, uS_ne, if_pos, if_neg, b01, b01n, ite_not, if_true, if_false, c_town0 hL hb q, rX_d]
theorem c_partB (hL : CL S (iL w.1) nT nR nC rd) {t o day : Int} (ht : 0 ≤ t ∧ t < nT) (ho : 0 ≤ o ∧ o < nT) (hb : -2147483648 ≤ day ∧ day < 2147483648) (hd : ¬ (0 ≤ day ∧ day < 7)) : am_call X aP (d + 3) 122 [.ref 0, .int (zI t), .int (zI o), .int (zI day)] (mkS w (hI S) J) = some (.inr 2, (mkS w (hI (xbS S)) J)) := by
  rw [go_X9_part, e_X9_part_0]
  simp (disch := omega) only [hk, hu, hI_n, hI_un, z_nat, em_d, zl, z_add, z_sub, z_mul, z_lt, z_eq, gI_mk, gJ_mk, cI_some, cV_some, cJ_some, cI_x, cV_x, cJ_x, uS_self, uS_ne, if_pos, if_neg, b01, b01n, ite_not, if_true, if_false, c_town1 hL ht]
  rw [show 9999999 = 9999998 + 1 from rfl, e_X9_part_3]
  simp (disch := omega) only [hk, hu, hI_n, hI_un, z_nat, em_d, zl, z_add, z_sub, z_mul, z_lt, z_eq, gI_mk, gJ_mk, cI_some, cV_some, cJ_some, cI_x, cV_x, cJ_x, uS_self, uS_ne, if_pos, if_neg, b01, b01n, ite_not, if_true, if_false, c_town1 hL ho]
  rw [show 9999998 = 9999997 + 1 from rfl, e_X9_part_6]
  simp (disch := omega) only [hk, hu, hI_n, hI_un, z_nat, em_d, zl, z_add, z_sub, z_mul, z_lt, z_eq, gI_mk, gJ_mk, cI_some, cV_some, cJ_some, cI_x, cV_x, cJ_x, uS_self, uS_ne, if_pos, if_neg, b01, b01n, ite_not, if_true, if_false, c_wd0 hb hd, rX_d]
end PR2
/-! MEND -/
theorem goB_pu (nR : Int) (s : Int → Int) {r v e : Int} (hr : 0 ≤ r ∧ r < nR) : goB nR (pu s r v) e = if v = e then goB nR s e ^^^ (goB nR s e &&& 2 ^ r.toNat) else goB nR s e ||| 2 ^ r.toNat := by
  have k0 : ∀ i : Nat, (goB nR (pu s r v) e).testBit i = (decide (i < nR.toNat) && decide (¬ pu s r v (i : Int) = e)) := fun i => by
    unfold goB
    rw [bits_test]
  have k1 : ∀ i : Nat, (goB nR s e).testBit i = (decide (i < nR.toNat) && decide (¬ s (i : Int) = e)) := fun i => by
    unfold goB
    rw [bits_test]
  apply Nat.eq_of_testBit_eq
  intro i
  rw [k0]
  by_cases h : v = e
  · rw [if_pos h, Nat.testBit_xor, Nat.testBit_and, k1, Nat.testBit_two_pow]
    by_cases q : r.toNat = i
    · have : (i : Int) = r := by omega
      unfold pu
      rw [if_pos this, decide_eq_true q, h]
      cases decide (i < nR.toNat) <;> cases decide (¬ s (i : Int) = e) <;> simp
    · have : ¬ (i : Int) = r := by omega
      unfold pu
      rw [if_neg this, decide_eq_false q]
      cases decide (i < nR.toNat) <;> cases decide (¬ s (i : Int) = e) <;> simp
  · rw [if_neg h, Nat.testBit_or, k1, Nat.testBit_two_pow]
    by_cases q : r.toNat = i
    · have : (i : Int) = r := by omega
      unfold pu
      rw [if_pos this, decide_eq_true q, decide_eq_true (show i < nR.toNat by omega), decide_eq_true h]
      cases decide (¬ s (i : Int) = e) <;> rfl
    · have : ¬ (i : Int) = r := by omega
      unfold pu
      rw [if_neg this, decide_eq_false q]
      cases decide (i < nR.toNat) <;> cases decide (¬ s (i : Int) = e) <;> rfl
theorem bit_set (p : Prop) [Decidable p] (v : Int) (i : Nat) : (if p then 2 ^ v.toNat else 0).testBit i = (decide p && decide (v.toNat = i)) := by
  by_cases h : p
  · rw [if_pos h, Nat.testBit_two_pow, decide_eq_true h]
    rfl
  · rw [if_neg h, Nat.zero_testBit, decide_eq_false h]
    rfl
theorem joinDB_pu {rd : Int → Int} {nT nR : Int} {s : Int → Int} {r v : Int} (hr : 0 ≤ r ∧ r < nR) (hs : 0 ≤ s r ∧ s r < 7) (hv : 0 ≤ v ∧ v < 7) (hne : ¬ v = s r) {A B : Nat} (hA : A = goB nR s (s r) ||| 2 ^ r.toNat) (hB : B = goB nR s v ^^^ (goB nR s v &&& 2 ^ r.toNat)) : joinDB rd nT nR (pu s r v) = (((joinDB rd nT nR s ^^^ (joinDB rd nT nR s &&& 2 ^ (s r).toNat)) ^^^ ((joinDB rd nT nR s ^^^ (joinDB rd nT nR s &&& 2 ^ (s r).toNat)) &&& 2 ^ v.toNat)) ||| (if joinM rd nT nR A then 2 ^ (s r).toNat else 0)) ||| (if joinM rd nT nR B then 2 ^ v.toNat else 0) := by
  have e1 : A = goB nR (pu s r v) (s r) := by rw [hA, goB_pu nR s hr, if_neg hne]
  have e2 : B = goB nR (pu s r v) v := by rw [hB, goB_pu nR s hr, if_pos rfl]
  have k0 : ∀ i : Nat, (joinDB rd nT nR (pu s r v)).testBit i = (decide (i < 7) && decide (joinM rd nT nR (goB nR (pu s r v) (i : Int)))) := fun i => by
    unfold joinDB
    rw [bits_test]
  have k1 : ∀ i : Nat, (joinDB rd nT nR s).testBit i = (decide (i < 7) && decide (joinM rd nT nR (goB nR s (i : Int)))) := fun i => by
    unfold joinDB
    rw [bits_test]
  rw [e1, e2]
  apply Nat.eq_of_testBit_eq
  intro i
  rw [Nat.testBit_or, Nat.testBit_or, Nat.testBit_xor, Nat.testBit_and, Nat.testBit_xor, Nat.testBit_and, bit_set, bit_set, k0, k1, Nat.testBit_two_pow, Nat.testBit_two_pow]
  by_cases q1 : (s r).toNat = i
  · have e3 : (i : Int) = s r := by omega
    have q2 : ¬ v.toNat = i := by omega
    rw [decide_eq_true q1, decide_eq_false q2, decide_eq_true (show i < 7 by omega), e3]
    cases decide (joinM rd nT nR (goB nR s (s r))) <;> cases decide (joinM rd nT nR (goB nR (pu s r v) (s r))) <;> cases decide (joinM rd nT nR (goB nR (pu s r v) v)) <;> rfl
  · by_cases q2 : v.toNat = i
    · have e3 : (i : Int) = v := by omega
      rw [decide_eq_false q1, decide_eq_true q2, decide_eq_true (show i < 7 by omega), e3]
      cases decide (joinM rd nT nR (goB nR s v)) <;> cases decide (joinM rd nT nR (goB nR (pu s r v) (s r))) <;> cases decide (joinM rd nT nR (goB nR (pu s r v) v)) <;> rfl
    · have e3 : i < 7 → goB nR (pu s r v) (i : Int) = goB nR s (i : Int) := fun hi => by
        apply Nat.eq_of_testBit_eq
        intro x
        unfold goB
        rw [bits_test, bits_test]
        by_cases hx : (x : Int) = r
        · unfold pu
          rw [if_pos hx, hx, decide_eq_true (show ¬ v = (i : Int) by omega), decide_eq_true (show ¬ s r = (i : Int) by omega)]
        · unfold pu
          rw [if_neg hx]
      rw [decide_eq_false q1, decide_eq_false q2]
      by_cases hi : i < 7
      · rw [e3 hi]
        cases decide (i < 7) <;> cases decide (joinM rd nT nR (goB nR s (i : Int))) <;> cases decide (joinM rd nT nR (goB nR (pu s r v) (s r))) <;> cases decide (joinM rd nT nR (goB nR (pu s r v) v)) <;> rfl
      · rw [decide_eq_false hi]
        cases decide (joinM rd nT nR (goB nR s (i : Int))) <;> cases decide (joinM rd nT nR (goB nR (pu s r v) (i : Int))) <;> cases decide (joinM rd nT nR (goB nR (pu s r v) (s r))) <;> cases decide (joinM rd nT nR (goB nR (pu s r v) v)) <;> rfl
theorem pu_same (s : Int → Int) (k : Int) : pu s k (s k) = s := by
  funext j
  unfold pu
  by_cases h : j = k
  · rw [if_pos h, h]
  · rw [if_neg h]
/-- most, road, day -/
def menS (rd : Int → Int) (nT nR : Int) (s : Int → Int) (r v : Int) (a : Int × Int × Int) : Int × Int × Int := if a.1 < joinN rd nT nR (pu s r v) then (joinN rd nT nR (pu s r v), r, v) else a
def menR (rd : Int → Int) (nT nR : Int) (s : Int → Int) (r : Int) (a : Int × Int × Int) : Int × Int × Int := fold (menS rd nT nR s r) 7 0 a
def menF (rd : Int → Int) (nT nR : Int) (s : Int → Int) : Int × Int × Int := fold (menR rd nT nR s) nR.toNat 0 (joinN rd nT nR s, -1, -1)
def menA (rd : Int → Int) (nT nR : Int) (s : Int → Int) (p : Int) : Int := if p = 0 then (menF rd nT nR s).2.1 else if p = 1 then (menF rd nT nR s).2.2 else if (menF rd nT nR s).2.1 = -1 then -1 else (menF rd nT nR s).1
abbrev okM (nR : Int) (a : Int × Int × Int) : Prop := (0 ≤ a.1 ∧ a.1 ≤ 7) ∧ ((a.2.1 = -1 ∧ a.2.2 = -1) ∨ (0 ≤ a.2.1 ∧ a.2.1 < nR ∧ 0 ≤ a.2.2 ∧ a.2.2 < 7))
theorem joinN_r (rd : Int → Int) (nT nR : Int) (s : Int → Int) : 0 ≤ joinN rd nT nR s ∧ joinN rd nT nR s ≤ 7 := by
  have := sumZ_r (f := fun d => if joinM rd nT nR (goB nR s d) then 1 else 0) (a := 0) (b := 1) 7 (fun k _ _ => by split <;> decide)
  unfold joinN
  omega
theorem menS_ok {rd : Int → Int} {nT nR : Int} {s : Int → Int} {r v : Int} (hr : 0 ≤ r ∧ r < nR) (hv : 0 ≤ v ∧ v < 7) {a : Int × Int × Int} (h : okM nR a) : okM nR (menS rd nT nR s r v a) := by
  unfold menS
  split
  · exact ⟨joinN_r _ _ _ _, Or.inr ⟨hr.1, hr.2, hv.1, hv.2⟩⟩
  · exact h
theorem menR_ok {rd : Int → Int} {nT nR : Int} {s : Int → Int} {r : Int} (hr : 0 ≤ r ∧ r < nR) {a : Int × Int × Int} (h : okM nR a) : okM nR (menR rd nT nR s r a) := fold_V (menS rd nT nR s r) (fun _ a => okM nR a) 7 (fun k a k1 k2 h => menS_ok hr ⟨k1, k2⟩ h) 7 0 a (by decide) (by decide) h
theorem menF_ok {rd : Int → Int} {nT nR : Int} {s : Int → Int} (hR : 0 ≤ nR) : okM nR (menF rd nT nR s) := fold_V (menR rd nT nR s) (fun _ a => okM nR a) nR (fun k a k1 k2 h => menR_ok ⟨k1, k2⟩ h) nR.toNat 0 _ (by omega) (by omega) ⟨joinN_r _ _ _ _, Or.inl ⟨rfl, rfl⟩⟩
section MEN
variable {X : Nat × (Nat → Int32)} {d : Nat} {w : Bool × Bool × Bool} {S : Hp} {J : Nat → Nat → Int64} {nT nR nC : Int} {rd s : Int → Int} {bl bs : Bool}
theorem c_daysIf (hL : CL S (iL bl) nT nR nC rd) (hE : Ends nT nR rd) (hs : CS nR nC S (iS bs) s) (hoff : ∀ r, 0 ≤ r → r < nR → 0 ≤ s r ∧ s r < 7) {r v : Int} (hr : 0 ≤ r ∧ r < nR) (hv : 0 ≤ v ∧ v < 7) : am_call X aP (d + 3) 13 [.ref ((iL bl)), .ref ((iS bs)), .int (zI ((joinDB rd nT nR s : Nat))), .int (zI r), .int (zI v)] (mkS w (hI S) J) = some (.inl (some (.int (zI ((joinDB rd nT nR (pu s r v) : Nat))))), (mkS w (hI S) J)) := by
  obtain ⟨-, -, -, -, -, -, a7, a8, -⟩ := id hL
  have h0 := hoff r hr.1 hr.2
  have e1 : S (iS bs + 1) r = s r := (hs.1 r hr.1 hr.2).1
  rw [go_X1_daysIfChanged, e_X1_daysIfChanged_0]
  by_cases q : v = s r
  · rw [q, pu_same]
    simp (disch := omega) only [hk, hu, hI_n, hI_un, z_nat, em_d, zl, z_add, z_sub, z_mul, z_lt, z_eq, gI_mk, gJ_mk, cI_some, cV_some, cJ_some, cI_x, cV_x, cJ_x, uS_self, uS_ne, if_pos, if_neg, b01, b01n, ite_not, if_true, if_false, hLL, e1, rI_d]
  · have hg1 := fun d => c_going (X := X) (d := d) (w := w) (J := J) hL hs hoff h0
    have hg2 := fun d => c_going (X := X) (d := d) (w := w) (J := J) hL hs hoff hv
    have h2r : 2 ^ r.toNat < 2 ^ 12 := Nat.pow_lt_pow_right (by decide) (by omega)
    have hA : goB nR s (s r) ||| 2 ^ r.toNat < 2147483648 := Nat.or_lt_two_pow (n := 31) (goB_lt nR s _ a8) (by omega)
    have hB : goB nR s v ^^^ (goB nR s v &&& 2 ^ r.toNat) < 2147483648 := xand_31 (goB_lt nR s v a8)
    have hj1 := fun d => c_joins (X := X) (d := d) (w := w) (J := J) hL hE hA
    have hj2 := fun d => c_joins (X := X) (d := d) (w := w) (J := J) hL hE hB
    have ej := joinDB_pu (rd := rd) (nT := nT) hr h0 hv q rfl rfl
    rw [ej]
    simp (disch := omega) only [hk, hu, hI_n, hI_un, z_nat, em_d, zl, z_add, z_sub, z_mul, z_lt, z_eq, gI_mk, gJ_mk, cI_some, cV_some, cJ_some, cI_x, cV_x, cJ_x, uS_self, uS_ne, if_pos, if_neg, b01, b01n, ite_not, if_true, if_false, hLL, e1]
    rw [hg1]
    simp (disch := omega) only [hk, hu, hI_n, hI_un, z_nat, em_d, zl, z_add, z_sub, z_mul, z_lt, z_eq, gI_mk, gJ_mk, cI_some, cV_some, cJ_some, cI_x, cV_x, cJ_x, uS_self, uS_ne, if_pos, if_neg, b01, b01n, ite_not, if_true, if_false, hLL, z_shl1, z_or]
    rw [hj1]
    by_cases pA : joinM rd nT nR (goB nR s (s r) ||| 2 ^ r.toNat)
    · simp (disch := omega) only [hk, hu, hI_n, hI_un, z_nat, em_d, zl, z_add, z_sub, z_mul, z_lt, z_eq, gI_mk, gJ_mk, cI_some, cV_some, cJ_some, cI_x, cV_x, cJ_x, uS_self, uS_ne, if_pos, if_neg, b01, b01n, ite_not, if_true, if_false, hLL, pA]
      rw [hg2]
      simp (disch := omega) only [hk, hu, hI_n, hI_un, z_nat, em_d, zl, z_add, z_sub, z_mul, z_lt, z_eq, gI_mk, gJ_mk, cI_some, cV_some, cJ_some, cI_x, cV_x, cJ_x, uS_self, uS_ne, if_pos, if_neg, b01, b01n, ite_not, if_true, if_false, hLL, z_shl1, z_andn]
      rw [hj2]
      by_cases pB : joinM rd nT nR (goB nR s v ^^^ (goB nR s v &&& 2 ^ r.toNat))
      · simp (disch := omega) only [hk, hu, hI_n, hI_un, z_nat, em_d, zl, z_add, z_sub, z_mul, z_lt, z_eq, gI_mk, gJ_mk, cI_some, cV_some, cJ_some, cI_x, cV_x, cJ_x, uS_self, uS_ne, if_pos, if_neg, b01, b01n, ite_not, if_true, if_false, hLL, pB, e1, z_shl1, z_andn, z_or, rI_d]
      · simp (disch := omega) only [hk, hu, hI_n, hI_un, z_nat, em_d, zl, z_add, z_sub, z_mul, z_lt, z_eq, gI_mk, gJ_mk, cI_some, cV_some, cJ_some, cI_x, cV_x, cJ_x, uS_self, uS_ne, if_pos, if_neg, b01, b01n, ite_not, if_true, if_false, hLL, pB, e1, z_shl1, z_andn, z_or, z_or0, Nat.or_zero, rI_d]
    · simp (disch := omega) only [hk, hu, hI_n, hI_un, z_nat, em_d, zl, z_add, z_sub, z_mul, z_lt, z_eq, gI_mk, gJ_mk, cI_some, cV_some, cJ_some, cI_x, cV_x, cJ_x, uS_self, uS_ne, if_pos, if_neg, b01, b01n, ite_not, if_true, if_false, hLL, pA]
      rw [hg2]
      simp (disch := omega) only [hk, hu, hI_n, hI_un, z_nat, em_d, zl, z_add, z_sub, z_mul, z_lt, z_eq, gI_mk, gJ_mk, cI_some, cV_some, cJ_some, cI_x, cV_x, cJ_x, uS_self, uS_ne, if_pos, if_neg, b01, b01n, ite_not, if_true, if_false, hLL, z_shl1, z_andn]
      rw [hj2]
      by_cases pB : joinM rd nT nR (goB nR s v ^^^ (goB nR s v &&& 2 ^ r.toNat))
      · simp (disch := omega) only [hk, hu, hI_n, hI_un, z_nat, em_d, zl, z_add, z_sub, z_mul, z_lt, z_eq, gI_mk, gJ_mk, cI_some, cV_some, cJ_some, cI_x, cV_x, cJ_x, uS_self, uS_ne, if_pos, if_neg, b01, b01n, ite_not, if_true, if_false, hLL, pB, e1, z_shl1, z_andn, z_or, z_or0, Nat.or_zero, rI_d]
      · simp (disch := omega) only [hk, hu, hI_n, hI_un, z_nat, em_d, zl, z_add, z_sub, z_mul, z_lt, z_eq, gI_mk, gJ_mk, cI_some, cV_some, cJ_some, cI_x, cV_x, cJ_x, uS_self, uS_ne, if_pos, if_neg, b01, b01n, ite_not, if_true, if_false, hLL, pB, e1, z_shl1, z_andn, z_or, z_or0, Nat.or_zero, rI_d]
theorem l_men28 (hL : CL S (iL w.1) nT nR nC rd) (hE : Ends nT nR rd) (hs : CS nR nC S 8 s) (hoff : ∀ r, 0 ≤ r → r < nR → 0 ≤ s r ∧ s r < 7) {p r : Int} (hr : 0 ≤ r ∧ r < nR) : ∀ (j k f : Nat) (a : Int × Int × Int), k + j = 7 → okM nR a → aR X (d + 3) m_X9_mend (f + j + 1) 28 [some (.ref 0), some (.int (zI p)), some (.int (zI ((joinDB rd nT nR s : Nat)))), some (.int (zI a.1)), some (.int (zI a.2.1)), some (.int (zI a.2.2)), some (.int (zI r)), some (.int (zI ((k : Int)))), none] (1, 6) (mkS w (hI S) J) = aR X (d + 3) m_X9_mend f 21 [some (.ref 0), some (.int (zI p)), some (.int (zI ((joinDB rd nT nR s : Nat)))), some (.int (zI ((fold (menS rd nT nR s r) j (k : Int) a).1))), some (.int (zI ((fold (menS rd nT nR s r) j (k : Int) a).2.1))), some (.int (zI ((fold (menS rd nT nR s r) j (k : Int) a).2.2))), some (.int (zI ((r + 1)))), none, none] (1, 6) (mkS w (hI S) J)
  | 0, k, f, a, h, ha => by
    obtain ⟨-, -, -, -, -, -, a7, a8, -⟩ := id hL
    have : k = 7 := by omega
    subst this
    rw [e_X9_mend_28]
    simp (disch := omega) only [hk, hu, hI_n, hI_un, z_nat, em_d, zl, z_add, z_sub, z_mul, z_lt, z_eq, gI_mk, gJ_mk, cI_some, cV_some, cJ_some, cI_x, cV_x, cJ_x, uS_self, uS_ne, if_pos, if_neg, b01, b01n, ite_not, if_true, if_false, hLL]
    rfl
  | j + 1, k, f, a, h, ha => by
    obtain ⟨-, -, -, -, -, -, a7, a8, -⟩ := id hL
    have ih := l_men28 hL hE hs hoff (p := p) hr j (k + 1) f (menS rd nT nR s r (k : Int) a) (by omega) (menS_ok hr (by omega) ha)
    obtain ⟨jb, jp⟩ := joinDB_pop rd nT nR (pu s r (k : Int))
    have hd := fun d => c_daysIf (X := X) (d := d) (w := w) (J := J) (bs := false) hL hE hs hoff hr (v := (k : Int)) (by omega)
    have hb := fun d => c_bitCount (X := X) (d := d) (w := w) (S := S) (J := J) jb
    have hn := joinN_r rd nT nR (pu s r (k : Int))
    have ha1 := ha.1
    have ef : fold (menS rd nT nR s r) (j + 1) (k : Int) a = fold (menS rd nT nR s r) j ((k : Int) + 1) (menS rd nT nR s r (k : Int) a) := rfl
    rw [show ((k + 1 : Nat) : Int) = (k : Int) + 1 by omega, ← ef] at ih
    rw [show f + (j + 1) + 1 = (f + j + 1) + 1 by omega, e_X9_mend_28]
    simp (disch := omega) only [hk, hu, hI_n, hI_un, z_nat, em_d, zl, z_add, z_sub, z_mul, z_lt, z_eq, gI_mk, gJ_mk, cI_some, cV_some, cJ_some, cI_x, cV_x, cJ_x, uS_self, uS_ne, if_pos, if_neg, b01, b01n, ite_not, if_true, if_false, hLL]
    refine (congrArg (fun z => cI z _ _) (hd _)).trans ?_
    simp (disch := omega) only [hk, hu, hI_n, hI_un, z_nat, em_d, zl, z_add, z_sub, z_mul, z_lt, z_eq, gI_mk, gJ_mk, cI_some, cV_some, cJ_some, cI_x, cV_x, cJ_x, uS_self, uS_ne, if_pos, if_neg, b01, b01n, ite_not, if_true, if_false, hLL]
    rw [hb, jp]
    by_cases q : a.1 < joinN rd nT nR (pu s r (k : Int))
    · have e : menS rd nT nR s r (k : Int) a = (joinN rd nT nR (pu s r (k : Int)), r, (k : Int)) := if_pos q
      rw [e] at ih
      simp (disch := omega) only [hk, hu, hI_n, hI_un, z_nat, em_d, zl, z_add, z_sub, z_mul, z_lt, z_eq, gI_mk, gJ_mk, cI_some, cV_some, cJ_some, cI_x, cV_x, cJ_x, uS_self, uS_ne, if_pos, if_neg, b01, b01n, ite_not, if_true, if_false, hLL]
      exact ih
    · have e : menS rd nT nR s r (k : Int) a = a := if_neg q
      rw [e] at ih
      simp (disch := omega) only [hk, hu, hI_n, hI_un, z_nat, em_d, zl, z_add, z_sub, z_mul, z_lt, z_eq, gI_mk, gJ_mk, cI_some, cV_some, cJ_some, cI_x, cV_x, cJ_x, uS_self, uS_ne, if_pos, if_neg, b01, b01n, ite_not, if_true, if_false, hLL]
      exact ih
theorem l_men21 (hL : CL S (iL w.1) nT nR nC rd) (hE : Ends nT nR rd) (hs : CS nR nC S 8 s) (hoff : ∀ r, 0 ≤ r → r < nR → 0 ≤ s r ∧ s r < 7) {p : Int} (hp : 0 ≤ p ∧ p ≤ 2) : ∀ (j k f : Nat) (a : Int × Int × Int), (k : Int) + j = nR → okM nR a → fold (menR rd nT nR s) j (k : Int) a = menF rd nT nR s → aR X (d + 3) m_X9_mend (f + 9 * j + 1) 21 [some (.ref 0), some (.int (zI p)), some (.int (zI ((joinDB rd nT nR s : Nat)))), some (.int (zI a.1)), some (.int (zI a.2.1)), some (.int (zI a.2.2)), some (.int (zI ((k : Int)))), none, none] (1, 6) (mkS w (hI S) J) = some (.inl (some (.int (zI (menA rd nT nR s p)))), (mkS w (hI S) J))
  | 0, k, f, a, h, ha, hF => by
    obtain ⟨-, a2, -, -, -, -, a7, a8, -⟩ := id hL
    have hF : a = menF rd nT nR s := hF
    obtain ⟨h1, h2⟩ := ha
    rw [e_X9_mend_21]
    unfold menA
    rw [← hF]
    by_cases p0 : p = 0
    · simp (disch := omega) only [hk, hu, hI_n, hI_un, z_nat, em_d, zl, z_add, z_sub, z_mul, z_lt, z_eq, gI_mk, gJ_mk, cI_some, cV_some, cJ_some, cI_x, cV_x, cJ_x, uS_self, uS_ne, if_pos, if_neg, b01, b01n, ite_not, if_true, if_false, hLL, a2, p0, rI_d]
    · by_cases q : a.2.1 = -1
      · by_cases p1 : p = 1
        · have : a.2.2 = -1 := by omega
          simp (disch := omega) only [hk, hu, hI_n, hI_un, z_nat, em_d, zl, z_add, z_sub, z_mul, z_lt, z_eq, gI_mk, gJ_mk, cI_some, cV_some, cJ_some, cI_x, cV_x, cJ_x, uS_self, uS_ne, if_pos, if_neg, b01, b01n, ite_not, if_true, if_false, hLL, a2, p0, p1, q, this, rI_d]
        · simp (disch := omega) only [hk, hu, hI_n, hI_un, z_nat, em_d, zl, z_add, z_sub, z_mul, z_lt, z_eq, gI_mk, gJ_mk, cI_some, cV_some, cJ_some, cI_x, cV_x, cJ_x, uS_self, uS_ne, if_pos, if_neg, b01, b01n, ite_not, if_true, if_false, hLL, a2, p0, p1, q, rI_d]
      · by_cases p1 : p = 1
        · simp (disch := omega) only [hk, hu, hI_n, hI_un, z_nat, em_d, zl, z_add, z_sub, z_mul, z_lt, z_eq, gI_mk, gJ_mk, cI_some, cV_some, cJ_some, cI_x, cV_x, cJ_x, uS_self, uS_ne, if_pos, if_neg, b01, b01n, ite_not, if_true, if_false, hLL, a2, p0, p1, q, rI_d]
        · simp (disch := omega) only [hk, hu, hI_n, hI_un, z_nat, em_d, zl, z_add, z_sub, z_mul, z_lt, z_eq, gI_mk, gJ_mk, cI_some, cV_some, cJ_some, cI_x, cV_x, cJ_x, uS_self, uS_ne, if_pos, if_neg, b01, b01n, ite_not, if_true, if_false, hLL, a2, p0, p1, q, rI_d]
  | j + 1, k, f, a, h, ha, hF => by
    obtain ⟨-, a2, -, -, -, -, a7, a8, -⟩ := id hL
    have ih := l_men21 hL hE hs hoff hp j (k + 1) f (menR rd nT nR s (k : Int) a) (by omega) (menR_ok (by omega) ha) (by
      rw [show ((k + 1 : Nat) : Int) = (k : Int) + 1 by omega]
      exact hF)
    have hl := l_men28 (X := X) (d := d) (w := w) (J := J) hL hE hs hoff (p := p) (r := (k : Int)) (by omega) 7 0 (f + 9 * j + 1) a (by decide) ha
    rw [show ((k + 1 : Nat) : Int) = (k : Int) + 1 by omega] at ih
    rw [show f + 9 * (j + 1) + 1 = (f + 9 * j + 1 + 7 + 1) + 1 by omega, e_X9_mend_21]
    simp (disch := omega) only [hk, hu, hI_n, hI_un, z_nat, em_d, zl, z_add, z_sub, z_mul, z_lt, z_eq, gI_mk, gJ_mk, cI_some, cV_some, cJ_some, cI_x, cV_x, cJ_x, uS_self, uS_ne, if_pos, if_neg, b01, b01n, ite_not, if_true, if_false, hLL, a2]
    exact hl.trans ih
theorem c_mend (hL : CL S (iL w.1) nT nR nC rd) (hE : Ends nT nR rd) (hs : CS nR nC S 8 s) (hv : Sc nR nC s) {p : Int} (hp : 0 ≤ p ∧ p ≤ 2) : am_call X aP (d + 4) 123 [.ref 0, .int (zI p)] (mkS w (hI S) J) = some (.inl (some (.int (zI (menA rd nT nR s p)))), (mkS w (hI S) J)) := by
  obtain ⟨-, a2, -, -, -, -, a7, a8, -⟩ := id hL
  have hoff := fun r r1 r2 => (Sc_w hv).1 r r1 r2
  have hj := fun d => c_joinedDays (X := X) (d := d) (w := w) (J := J) (bs := false) hL hE hs hoff
  obtain ⟨jb, jp⟩ := joinDB_pop rd nT nR s
  have hb := fun d => c_bitCount (X := X) (d := d) (w := w) (S := S) (J := J) jb
  have hl := l_men21 (X := X) (d := d) (w := w) (J := J) hL hE hs hoff hp nR.toNat 0 (9999998 - 9 * nR.toNat - 1) (joinN rd nT nR s, -1, -1) (by omega) ⟨joinN_r _ _ _ _, Or.inl ⟨rfl, rfl⟩⟩ rfl
  rw [show 9999998 - 9 * nR.toNat - 1 + 9 * nR.toNat + 1 = 9999998 by omega] at hl
  rw [go_X9_mend, e_X9_mend_0]
  simp (disch := omega) only [hk, hu, hI_n, hI_un, z_nat, em_d, zl, z_add, z_sub, z_mul, z_lt, z_eq, gI_mk, gJ_mk, cI_some, cV_some, cJ_some, cI_x, cV_x, cJ_x, uS_self, uS_ne, if_pos, if_neg, b01, b01n, ite_not, if_true, if_false, c_within, c_req1]
  rw [show 9999999 = 9999998 + 1 from rfl, e_X9_mend_6]
  refine (congrArg (fun z => cI z _ _) (hj _)).trans ?_
  simp (disch := omega) only [hk, hu, hI_n, hI_un, z_nat, em_d, zl, z_add, z_sub, z_mul, z_lt, z_eq, gI_mk, gJ_mk, cI_some, cV_some, cJ_some, cI_x, cV_x, cJ_x, uS_self, uS_ne, if_pos, if_neg, b01, b01n, ite_not, if_true, if_false]
  rw [hb, jp]
  simp (disch := omega) only [hk, hu, hI_n, hI_un, z_nat, em_d, zl, z_add, z_sub, z_mul, z_lt, z_eq, gI_mk, gJ_mk, cI_some, cV_some, cJ_some, cI_x, cV_x, cJ_x, uS_self, uS_ne, if_pos, if_neg, b01, b01n, ite_not, if_true, if_false]
  exact hl
theorem c_mendB {p : Int} (hb : -2147483648 ≤ p ∧ p < 2147483648) (hp : ¬ (0 ≤ p ∧ p ≤ 2)) : am_call X aP (d + 4) 123 [.ref 0, .int (zI p)] (mkS w (hI S) J) = some (.inr 2, (mkS w (hI (xbS S)) J)) := by
  rw [go_X9_mend, e_X9_mend_0]
  simp (disch := omega) only [hk, hu, hI_n, hI_un, z_nat, em_d, zl, z_add, z_sub, z_mul, z_lt, z_eq, gI_mk, gJ_mk, cI_some, cV_some, cJ_some, cI_x, cV_x, cJ_x, uS_self, uS_ne, if_pos, if_neg, b01, b01n, ite_not, if_true, if_false, c_within, c_req0, rX_d]
abbrev ScX (nR nC r : Int) (S : Hp) (s : Int → Int) : Prop := ∀ k, Vd nR nC k → k ≠ r → S 148 k = s k
theorem ScX_w {r : Int} (h : ScX nR nC r S s) (v : Int) : ScP nR nC (uS S 148 r v) (pu s r v) := fun k hk => by
  unfold pu
  by_cases e : k = r
  · rw [if_pos e, e, uS_self]
  · rw [if_neg e, uS_ne _ _ (Or.inr e)]
    exact h k hk e
theorem ScX_u {r : Int} (h : ScX nR nC r S s) (v : Int) : ScX nR nC r (uS S 148 r v) s := fun k hk e => by
  rw [uS_ne _ _ (Or.inr e)]
  exact h k hk e
theorem ml_men31 {r p : Int} (hE : Ends nT nR rd) (hoff : ∀ r, 0 ≤ r → r < nR → 0 ≤ s r ∧ s r < 7) (hr : 0 ≤ r ∧ r < nR) (hR : nR ≤ 12) : ∀ (j k : Nat) (S : Hp) (a : Int × Int × Int), k + j = 7 → LdP S nT nR nC rd → okM nR a → ScX nR nC r S s → ∃ S', (∀ f, aR X (d + 3) m_X10_mend (f + j + 1) 31 [some (.ref 132), some (.int (zI p)), some (.int (zI a.1)), some (.int (zI a.2.1)), some (.int (zI a.2.2)), some (.int (zI r)), some (.int (zI ((k : Int)))), none] (0, 0) (mkS w (hI S) J) = aR X (d + 3) m_X10_mend (f + 1) 31 [some (.ref 132), some (.int (zI p)), some (.int (zI ((fold (menS rd nT nR s r) j (k : Int) a).1))), some (.int (zI ((fold (menS rd nT nR s r) j (k : Int) a).2.1))), some (.int (zI ((fold (menS rd nT nR s r) j (k : Int) a).2.2))), some (.int (zI r)), some (.int (zI 7)), none] (0, 0) (mkS w (hI S') J)) ∧ ScX nR nC r S' s ∧ Fr [148] S S'
  | 0, k, S, a, h, hL, ha, hs => by
    have : k = 7 := by omega
    subst this
    exact ⟨S, fun f => rfl, hs, fun _ _ => rfl⟩
  | j + 1, k, S, a, h, hL, ha, hs => by
    have hL2 : LdP (uS S 148 r (k : Int)) nT nR nC rd := LdP_u hL _ ⟨by decide, Or.inl (by decide)⟩
    obtain ⟨S', h1, h2, h3⟩ := ml_men31 (p := p) hE hoff hr hR j (k + 1) (uS S 148 r (k : Int)) (menS rd nT nR s r (k : Int) a) (by omega) hL2 (menS_ok hr (by omega) ha) (ScX_u hs _)
    have hj := fun d => m_joinedDays (X := X) (d := d) (w := w) (J := J) hL2 hE (ScX_w hs (k : Int)) (fun x x1 x2 => by
      unfold pu
      split
      · omega
      · exact hoff x x1 x2)
    have hn := joinN_r rd nT nR (pu s r (k : Int))
    have ha1 := ha.1
    have ef : fold (menS rd nT nR s r) (j + 1) (k : Int) a = fold (menS rd nT nR s r) j ((k : Int) + 1) (menS rd nT nR s r (k : Int) a) := rfl
    refine ⟨S', fun f => ?_, h2, fun o ho => ?_⟩
    · have h1 := h1 f
      rw [show ((k + 1 : Nat) : Int) = (k : Int) + 1 by omega, ← ef] at h1
      rw [show f + (j + 1) + 1 = (f + j + 1) + 1 by omega, e_X10_mend_31]
      simp (disch := omega) only [hk, hu, hI_n, hI_un, z_nat, em_d, zl, z_add, z_sub, z_mul, z_lt, z_eq, gI_mk, gJ_mk, cI_some, cV_some, cJ_some, cI_x, cV_x, cJ_x, uS_self, uS_ne, if_pos, if_neg, b01, b01n, ite_not, if_true, if_false, Int.zero_add]
      rw [hj]
      by_cases q : a.1 < joinN rd nT nR (pu s r (k : Int))
      · have e : menS rd nT nR s r (k : Int) a = (joinN rd nT nR (pu s r (k : Int)), r, (k : Int)) := if_pos q
        rw [e] at h1
        simp (disch := omega) only [hk, hu, hI_n, hI_un, z_nat, em_d, zl, z_add, z_sub, z_mul, z_lt, z_eq, gI_mk, gJ_mk, cI_some, cV_some, cJ_some, cI_x, cV_x, cJ_x, uS_self, uS_ne, if_pos, if_neg, b01, b01n, ite_not, if_true, if_false]
        exact h1
      · have e : menS rd nT nR s r (k : Int) a = a := if_neg q
        rw [e] at h1
        simp (disch := omega) only [hk, hu, hI_n, hI_un, z_nat, em_d, zl, z_add, z_sub, z_mul, z_lt, z_eq, gI_mk, gJ_mk, cI_some, cV_some, cJ_some, cI_x, cV_x, cJ_x, uS_self, uS_ne, if_pos, if_neg, b01, b01n, ite_not, if_true, if_false]
        exact h1
    · rw [h3 o ho]
      exact uS_row _ _ _ (fun z => ho (z ▸ List.mem_singleton.mpr rfl))
theorem ml_men25 {p : Int} (hp : 0 ≤ p ∧ p ≤ 2) (hE : Ends nT nR rd) (hoff : ∀ r, 0 ≤ r → r < nR → 0 ≤ s r ∧ s r < 7) (hR : nR ≤ 12) : ∀ (j k : Nat) (S : Hp) (a : Int × Int × Int), (k : Int) + j = nR → LdP S nT nR nC rd → NwP nR nC S s → okM nR a → ScP nR nC S s → fold (menR rd nT nR s) j (k : Int) a = menF rd nT nR s → ∃ S', (∀ f, aR X (d + 3) m_X10_mend (f + 9 * j + 1) 25 [some (.ref 132), some (.int (zI p)), some (.int (zI a.1)), some (.int (zI a.2.1)), some (.int (zI a.2.2)), some (.int (zI ((k : Int)))), none, none] (0, 0) (mkS w (hI S) J) = some (.inl (some (.int (zI (menA rd nT nR s p)))), (mkS w (hI S') J))) ∧ Fr [148] S S'
  | 0, k, S, a, h, hL, hN, ha, hs, hF => by
    obtain ⟨-, a2, -, -, -, -, a7, a8, -⟩ := id hL
    have hF : a = menF rd nT nR s := hF
    obtain ⟨h1, h2⟩ := ha
    refine ⟨S, fun f => ?_, fun _ _ => rfl⟩
    rw [e_X10_mend_25]
    unfold menA
    rw [← hF]
    by_cases p0 : p = 0
    · simp (disch := omega) only [hk, hu, hI_n, hI_un, z_nat, em_d, zl, z_add, z_sub, z_mul, z_lt, z_eq, gI_mk, gJ_mk, cI_some, cV_some, cJ_some, cI_x, cV_x, cJ_x, uS_self, uS_ne, if_pos, if_neg, b01, b01n, ite_not, if_true, if_false, a2, p0, rI_d]
    · by_cases p1 : p = 1
      · simp (disch := omega) only [hk, hu, hI_n, hI_un, z_nat, em_d, zl, z_add, z_sub, z_mul, z_lt, z_eq, gI_mk, gJ_mk, cI_some, cV_some, cJ_some, cI_x, cV_x, cJ_x, uS_self, uS_ne, if_pos, if_neg, b01, b01n, ite_not, if_true, if_false, a2, p0, p1, rI_d]
      · by_cases q : a.2.1 = -1
        · simp (disch := omega) only [hk, hu, hI_n, hI_un, z_nat, em_d, zl, z_add, z_sub, z_mul, z_lt, z_eq, gI_mk, gJ_mk, cI_some, cV_some, cJ_some, cI_x, cV_x, cJ_x, uS_self, uS_ne, if_pos, if_neg, b01, b01n, ite_not, if_true, if_false, a2, p0, p1, q, rI_d]
        · simp (disch := omega) only [hk, hu, hI_n, hI_un, z_nat, em_d, zl, z_add, z_sub, z_mul, z_lt, z_eq, gI_mk, gJ_mk, cI_some, cV_some, cJ_some, cI_x, cV_x, cJ_x, uS_self, uS_ne, if_pos, if_neg, b01, b01n, ite_not, if_true, if_false, a2, p0, p1, q, rI_d]
  | j + 1, k, S, a, h, hL, hN, ha, hs, hF => by
    obtain ⟨-, a2, -, -, -, -, a7, a8, -⟩ := id hL
    obtain ⟨S1, h1, h2, h3⟩ := ml_men31 (X := X) (d := d) (w := w) (J := J) (r := (k : Int)) (p := p) hE hoff (by omega) hR 7 0 S a (by decide) hL ha (fun x hx _ => hs x hx)
    have hL1 : LdP S1 nT nR nC rd := LdP_of hL (by rw [h3 132 (by decide)]) (by rw [h3 132 (by decide)]) (by rw [h3 132 (by decide)]) (fun x _ _ => by rw [h3 137 (by decide)])
    have hN1 : NwP nR nC S1 s := NwP_fr hN h3 (by decide)
    have e147 : S1 147 (k : Int) = s (k : Int) := hN1 (k : Int) (by unfold Vd; omega)
    have hL2 : LdP (uS S1 148 (k : Int) (S1 147 (k : Int))) nT nR nC rd := LdP_u hL1 _ ⟨by decide, Or.inl (by decide)⟩
    have hs2 : ScP nR nC (uS S1 148 (k : Int) (S1 147 (k : Int))) s := by
      have := ScX_w h2 (s (k : Int))
      rw [pu_same] at this
      rw [e147]
      exact this
    obtain ⟨S2, g1, g2⟩ := ml_men25 hp hE hoff hR j (k + 1) (uS S1 148 (k : Int) (S1 147 (k : Int))) (menR rd nT nR s (k : Int) a) (by omega) hL2 (fun x hx => by rw [uS_row _ _ _ (by decide)]; exact hN1 x hx) (menR_ok (by omega) ha) hs2 (by
      rw [show ((k + 1 : Nat) : Int) = (k : Int) + 1 by omega]
      exact hF)
    refine ⟨S2, fun f => ?_, fun o ho => ?_⟩
    · have g1 := g1 f
      rw [show ((k + 1 : Nat) : Int) = (k : Int) + 1 by omega] at g1
      rw [show f + 9 * (j + 1) + 1 = (f + 9 * j + 1 + 7 + 1) + 1 by omega, e_X10_mend_25]
      simp (disch := omega) only [hk, hu, hI_n, hI_un, z_nat, em_d, zl, z_add, z_sub, z_mul, z_lt, z_eq, gI_mk, gJ_mk, cI_some, cV_some, cJ_some, cI_x, cV_x, cJ_x, uS_self, uS_ne, if_pos, if_neg, b01, b01n, ite_not, if_true, if_false, a2]
      refine (h1 (f + 9 * j + 1)).trans ?_
      rw [e_X10_mend_31]
      simp (disch := omega) only [hk, hu, hI_n, hI_un, z_nat, em_d, zl, z_add, z_sub, z_mul, z_lt, z_eq, gI_mk, gJ_mk, cI_some, cV_some, cJ_some, cI_x, cV_x, cJ_x, uS_self, uS_ne, if_pos, if_neg, b01, b01n, ite_not, if_true, if_false, Int.zero_add]
      exact g1
    · exact (g2 o ho).trans ((uS_row _ _ _ (fun z => ho (List.mem_singleton.mpr z))).trans (h3 o ho))
theorem m_mend (hL : LdP S nT nR nC rd) (hE : Ends nT nR rd) (hn : NwP nR nC S s) (hv : Sc nR nC s) {p : Int} (hp : 0 ≤ p ∧ p ≤ 2) : ∃ S', am_call X aP (d + 4) 241 [.ref 132, .int (zI p)] (mkS w (hI S) J) = some (.inl (some (.int (zI (menA rd nT nR s p)))), (mkS w (hI S') J)) ∧ QuM S S' := by
  have hq0 := QuM_0 S
  obtain ⟨-, -, -, -, -, -, a7, a8, a9, a10, a11⟩ := id hL
  have hoff := fun r r1 r2 => (Sc_w hv).1 r r1 r2
  obtain ⟨S1, h1, h2, h3⟩ := m_takeP (X := X) (d := d + 1) (w := w) (J := J) (NwP_q hn hq0) a8 a10
  have hq1 := QuM_fr hq0 h3 (by decide) (by decide)
  have hj := fun d => m_joinedDays (X := X) (d := d) (w := w) (J := J) (LdP_q hL hq1) hE h2 hoff
  obtain ⟨S2, h4, h5⟩ := ml_men25 (X := X) (d := d) (w := w) (J := J) hp hE hoff a8 nR.toNat 0 S1 (joinN rd nT nR s, -1, -1) (by omega) (LdP_q hL hq1) (NwP_q hn hq1) ⟨joinN_r _ _ _ _, Or.inl ⟨rfl, rfl⟩⟩ h2 rfl
  have hq2 := QuM_fr hq1 h5 (by decide) (by decide)
  refine ⟨S2, ?_, hq2⟩
  have h4 := h4 (9999999 - 9 * nR.toNat - 1)
  rw [show 9999999 - 9 * nR.toNat - 1 + 9 * nR.toNat + 1 = 9999999 by omega] at h4
  rw [go_X10_mend, e_X10_mend_0]
  simp (disch := omega) only [hk, hu, hI_n, hI_un, z_nat, em_d, zl, z_add, z_sub, z_mul, z_lt, z_eq, gI_mk, gJ_mk, cI_some, cV_some, cJ_some, cI_x, cV_x, cJ_x, uS_self, uS_ne, if_pos, if_neg, b01, b01n, ite_not, if_true, if_false, m_within]
  rw [m_may1 (uS_self _ _ _ _)]
  simp (disch := omega) only [hk, hu, hI_n, hI_un, z_nat, em_d, zl, z_add, z_sub, z_mul, z_lt, z_eq, gI_mk, gJ_mk, cI_some, cV_some, cJ_some, cI_x, cV_x, cJ_x, uS_self, uS_ne, if_pos, if_neg, b01, b01n, ite_not, if_true, if_false]
  rw [h1]
  simp (disch := omega) only [hk, hu, hI_n, hI_un, z_nat, em_d, zl, z_add, z_sub, z_mul, z_lt, z_eq, gI_mk, gJ_mk, cI_some, cV_some, cJ_some, cI_x, cV_x, cJ_x, uS_self, uS_ne, if_pos, if_neg, b01, b01n, ite_not, if_true, if_false]
  rw [hj]
  simp (disch := omega) only [hk, hu, hI_n, hI_un, z_nat, em_d, zl, z_add, z_sub, z_mul, z_lt, z_eq, gI_mk, gJ_mk, cI_some, cV_some, cJ_some, cI_x, cV_x, cJ_x, uS_self, uS_ne, if_pos, if_neg, b01, b01n, ite_not, if_true, if_false]
  exact h4
theorem m_mendB {p : Int} (hb : -2147483648 ≤ p ∧ p < 2147483648) (hp : ¬ (0 ≤ p ∧ p ≤ 2)) : am_call X aP (d + 4) 241 [.ref 132, .int (zI p)] (mkS w (hI S) J) = some (.inl (some (.int (zI 0))), (mkS w (hI (mxB S 1)) J)) := by
  rw [go_X10_mend, e_X10_mend_0]
  simp (disch := omega) only [hk, hu, hI_n, hI_un, z_nat, em_d, zl, z_add, z_sub, z_mul, z_lt, z_eq, gI_mk, gJ_mk, cI_some, cV_some, cJ_some, cI_x, cV_x, cJ_x, uS_self, uS_ne, if_pos, if_neg, b01, b01n, ite_not, if_true, if_false, m_within]
  rw [m_may0 (uS_self _ _ _ _) (by decide) (by decide)]
  simp (disch := omega) only [hk, hu, hI_n, hI_un, z_nat, em_d, zl, z_add, z_sub, z_mul, z_lt, z_eq, gI_mk, gJ_mk, cI_some, cV_some, cJ_some, cI_x, cV_x, cJ_x, uS_self, uS_ne, if_pos, if_neg, b01, b01n, ite_not, if_true, if_false, rI_d]
  rfl
end MEN
