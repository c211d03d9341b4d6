/-! ROADS THAT JOIN: what is come to by some roads -/
def bcF (x0 : Int32) : Int32 := ((((((((x0 - (((x0.toUInt32 >>> ((nI 1).toUInt32 &&& Int32.toUInt32 31)).toInt32) &&& (nI 1431655765))) &&& (nI 858993459)) + ((((x0 - (((x0.toUInt32 >>> ((nI 1).toUInt32 &&& Int32.toUInt32 31)).toInt32) &&& (nI 1431655765))).toUInt32 >>> ((nI 2).toUInt32 &&& Int32.toUInt32 31)).toInt32) &&& (nI 858993459))) + (((((x0 - (((x0.toUInt32 >>> ((nI 1).toUInt32 &&& Int32.toUInt32 31)).toInt32) &&& (nI 1431655765))) &&& (nI 858993459)) + ((((x0 - (((x0.toUInt32 >>> ((nI 1).toUInt32 &&& Int32.toUInt32 31)).toInt32) &&& (nI 1431655765))).toUInt32 >>> ((nI 2).toUInt32 &&& Int32.toUInt32 31)).toInt32) &&& (nI 858993459))).toUInt32 >>> ((nI 4).toUInt32 &&& Int32.toUInt32 31)).toInt32)) &&& (nI 252645135)) + (((((((x0 - (((x0.toUInt32 >>> ((nI 1).toUInt32 &&& Int32.toUInt32 31)).toInt32) &&& (nI 1431655765))) &&& (nI 858993459)) + ((((x0 - (((x0.toUInt32 >>> ((nI 1).toUInt32 &&& Int32.toUInt32 31)).toInt32) &&& (nI 1431655765))).toUInt32 >>> ((nI 2).toUInt32 &&& Int32.toUInt32 31)).toInt32) &&& (nI 858993459))) + (((((x0 - (((x0.toUInt32 >>> ((nI 1).toUInt32 &&& Int32.toUInt32 31)).toInt32) &&& (nI 1431655765))) &&& (nI 858993459)) + ((((x0 - (((x0.toUInt32 >>> ((nI 1).toUInt32 &&& Int32.toUInt32 31)).toInt32) &&& (nI 1431655765))).toUInt32 >>> ((nI 2).toUInt32 &&& Int32.toUInt32 31)).toInt32) &&& (nI 858993459))).toUInt32 >>> ((nI 4).toUInt32 &&& Int32.toUInt32 31)).toInt32)) &&& (nI 252645135)).toUInt32 >>> ((nI 8).toUInt32 &&& Int32.toUInt32 31)).toInt32)) + ((((((((x0 - (((x0.toUInt32 >>> ((nI 1).toUInt32 &&& Int32.toUInt32 31)).toInt32) &&& (nI 1431655765))) &&& (nI 858993459)) + ((((x0 - (((x0.toUInt32 >>> ((nI 1).toUInt32 &&& Int32.toUInt32 31)).toInt32) &&& (nI 1431655765))).toUInt32 >>> ((nI 2).toUInt32 &&& Int32.toUInt32 31)).toInt32) &&& (nI 858993459))) + (((((x0 - (((x0.toUInt32 >>> ((nI 1).toUInt32 &&& Int32.toUInt32 31)).toInt32) &&& (nI 1431655765))) &&& (nI 858993459)) + ((((x0 - (((x0.toUInt32 >>> ((nI 1).toUInt32 &&& Int32.toUInt32 31)).toInt32) &&& (nI 1431655765))).toUInt32 >>> ((nI 2).toUInt32 &&& Int32.toUInt32 31)).toInt32) &&& (nI 858993459))).toUInt32 >>> ((nI 4).toUInt32 &&& Int32.toUInt32 31)).toInt32)) &&& (nI 252645135)) + (((((((x0 - (((x0.toUInt32 >>> ((nI 1).toUInt32 &&& Int32.toUInt32 31)).toInt32) &&& (nI 1431655765))) &&& (nI 858993459)) + ((((x0 - (((x0.toUInt32 >>> ((nI 1).toUInt32 &&& Int32.toUInt32 31)).toInt32) &&& (nI 1431655765))).toUInt32 >>> ((nI 2).toUInt32 &&& Int32.toUInt32 31)).toInt32) &&& (nI 858993459))) + (((((x0 - (((x0.toUInt32 >>> ((nI 1).toUInt32 &&& Int32.toUInt32 31)).toInt32) &&& (nI 1431655765))) &&& (nI 858993459)) + ((((x0 - (((x0.toUInt32 >>> ((nI 1).toUInt32 &&& Int32.toUInt32 31)).toInt32) &&& (nI 1431655765))).toUInt32 >>> ((nI 2).toUInt32 &&& Int32.toUInt32 31)).toInt32) &&& (nI 858993459))).toUInt32 >>> ((nI 4).toUInt32 &&& Int32.toUInt32 31)).toInt32)) &&& (nI 252645135)).toUInt32 >>> ((nI 8).toUInt32 &&& Int32.toUInt32 31)).toInt32)).toUInt32 >>> ((nI 16).toUInt32 &&& Int32.toUInt32 31)).toInt32)) &&& (nI 63))
theorem bcF_ok : ∀ m : Nat, m < 128 → bcF (nI m) = zI (popc m) := by decide +kernel
def endB (rd : Int → Int) (r : Int) : Nat := 2 ^ (rd (4 * r)).toNat ||| 2 ^ (rd (4 * r + 1)).toNat
def jstep (rd : Int → Int) (roads : Nat) (r : Int) (m : Nat) : Nat := if roads.testBit r.toNat = true ∧ ¬ m &&& endB rd r = 0 then m ||| endB rd r else m
def jround (rd : Int → Int) (nR : Int) (roads m : Nat) : Nat := fold (jstep rd roads) nR.toNat 0 m
def jrun (rd : Int → Int) (nR : Int) (roads : Nat) : Nat → Nat → Nat
  | 0, m => m
  | n + 1, m => jround rd nR roads (jrun rd nR roads n m)
def reachM (rd : Int → Int) (nT nR : Int) (roads : Nat) (t : Int) : Nat := jrun rd nR roads nT.toNat (2 ^ t.toNat)
abbrev joinM (rd : Int → Int) (nT nR : Int) (roads : Nat) : Prop := nT = 0 ∨ reachM rd nT nR roads 0 = 2 ^ nT.toNat - 1
def joinN (rd : Int → Int) (nT nR : Int) (s : Int → Int) : Int := sumZ (fun d => if joinM rd nT nR (goB nR s d) then 1 else 0) 7
def joinDB (rd : Int → Int) (nT nR : Int) (s : Int → Int) : Nat := bits (fun d => decide (joinM rd nT nR (goB nR s d))) 7
/-- the ends are told towns, unlike -/
def Ends (nT nR : Int) (rd : Int → Int) : Prop := ∀ r, 0 ≤ r → r < nR → 0 ≤ rd (4 * r) ∧ rd (4 * r) < nT ∧ 0 ≤ rd (4 * r + 1) ∧ rd (4 * r + 1) < nT ∧ ¬ rd (4 * r) = rd (4 * r + 1) ∧ 1 ≤ rd (4 * r + 2)
theorem endB_lt {nT nR : Int} {rd : Int → Int} (h : Ends nT nR rd) {r : Int} (hr : 0 ≤ r ∧ r < nR) : endB rd r < 2 ^ nT.toNat := by
  obtain ⟨h1, h2, h3, h4, -⟩ := h r hr.1 hr.2
  unfold endB
  apply Nat.or_lt_two_pow
  · exact Nat.pow_lt_pow_right (by decide) (by omega)
  · exact Nat.pow_lt_pow_right (by decide) (by omega)
theorem jstep_lt {nT nR : Int} {rd : Int → Int} (h : Ends nT nR rd) {roads m : Nat} {r : Int} (hr : 0 ≤ r ∧ r < nR) (hm : m < 2 ^ nT.toNat) : jstep rd roads r m < 2 ^ nT.toNat := by
  unfold jstep
  split
  · exact Nat.or_lt_two_pow hm (endB_lt h hr)
  · exact hm
theorem jround_lt {nT nR : Int} {rd : Int → Int} (h : Ends nT nR rd) {roads m : Nat} (hR : 0 ≤ nR) (hm : m < 2 ^ nT.toNat) : jround rd nR roads m < 2 ^ nT.toNat := fold_V (jstep rd roads) (fun _ m => m < 2 ^ nT.toNat) nR (fun k a h1 h2 h3 => jstep_lt h ⟨h1, h2⟩ h3) nR.toNat 0 m (by omega) (by omega) hm
theorem jrun_lt {nT nR : Int} {rd : Int → Int} (h : Ends nT nR rd) {roads m : Nat} (hR : 0 ≤ nR) (hm : m < 2 ^ nT.toNat) : ∀ n, jrun rd nR roads n m < 2 ^ nT.toNat
  | 0 => hm
  | n + 1 => jround_lt h hR (jrun_lt h hR hm n)
theorem or_full {a n : Nat} (h : a < 2 ^ n) : (2 ^ n - 1) ||| a = 2 ^ n - 1 := by
  apply Nat.eq_of_testBit_eq
  intro i
  rw [Nat.testBit_or, Nat.testBit_two_pow_sub_one]
  by_cases hi : i < n
  · simp [hi]
  · have : a.testBit i = false := Nat.testBit_lt_two_pow (Nat.lt_of_lt_of_le h (Nat.pow_le_pow_right (by decide) (by omega)))
    simp [hi, this]
theorem jround_full {nT nR : Int} {rd : Int → Int} (h : Ends nT nR rd) {roads : Nat} (hR : 0 ≤ nR) : jround rd nR roads (2 ^ nT.toNat - 1) = 2 ^ nT.toNat - 1 := fold_V (jstep rd roads) (fun _ m => m = 2 ^ nT.toNat - 1) nR (fun k a h1 h2 h3 => by
  show jstep rd roads k a = _
  unfold jstep
  rw [h3]
  split
  · exact or_full (endB_lt h ⟨h1, h2⟩)
  · rfl) nR.toNat 0 _ (by omega) (by omega) rfl
theorem jrun_full {nT nR : Int} {rd : Int → Int} (h : Ends nT nR rd) {roads m : Nat} (hR : 0 ≤ nR) {k : Nat} (hk : jrun rd nR roads k m = 2 ^ nT.toNat - 1) : ∀ j, jrun rd nR roads (k + j) m = 2 ^ nT.toNat - 1
  | 0 => hk
  | j + 1 => by
    show jround rd nR roads (jrun rd nR roads (k + j) m) = _
    rw [jrun_full h hR hk j]
    exact jround_full h hR
theorem goB_eq (nR : Int) (s : Int → Int) (d : Int) (hR : 0 ≤ nR) : (2 ^ nR.toNat - 1) ^^^ ((2 ^ nR.toNat - 1) &&& restB nR s d) = goB nR s d := by
  apply Nat.eq_of_testBit_eq
  intro i
  unfold restB goB
  rw [Nat.testBit_xor, Nat.testBit_and, Nat.testBit_two_pow_sub_one, bits_test, bits_test]
  by_cases hi : i < nR.toNat
  · by_cases h : s (i : Int) = d
    · simp [hi, h]
    · simp [hi, h]
  · simp [hi]
theorem pow2_inj {m n : Nat} (h : m < 2147483648) (h2 : n < 2147483648) : ((m : Int) = (n : Int)) = (m = n) := propext ⟨fun z => by omega, fun z => by omega⟩
section JNS
variable {X : Nat × (Nat → Int32)} {d : Nat} {w : Bool × Bool × Bool} {S : Hp} {J : Nat → Nat → Int64} {nT nR nC : Int} {rd s : Int → Int} {cd : List (Int × Int)} {bl bs bw : Bool}
theorem c_bitCount {m : Nat} (hm : m < 128) : am_call X aP (d + 1) 298 [.int (zI ((m : Int)))] (mkS w (hI S) J) = some (.inl (some (.int (zI (popc m)))), (mkS w (hI S) J)) := by
  rw [go_J6_bitCount_0f7a4, e_J6_bitCount_0f7a4_0]
  show rI (bcF (zI (m : Int))) (mkS w (hI S) J) = _
  rw [zn, bcF_ok m hm]
  rfl
theorem c_ends (hL : CL S (iL bl) nT nR nC rd) {r : Int} (hr : 0 ≤ r ∧ r < nR) : am_call X aP (d + 1) 25 [.ref (iL bl), .int (zI r)] (mkS w (hI S) J) = some (.inl (some (.int (zI ((endB rd r : Nat))))), (mkS w (hI S) J)) := by
  obtain ⟨a1, a2, a3, a4, a5, a6, a7, a8, a9, a10, a11⟩ := hL
  obtain ⟨e1, e2, e3⟩ := a4 r hr.1 hr.2
  obtain ⟨b1, b2, b3, b4, b5, b6⟩ := a11 r hr.1 hr.2
  rw [go_X2_endsAsBits, e_X2_endsAsBits_0]
  simp (disch := omega) only [hk, hu, hI_n, hI_un, z_nat, em_d, zl, z_add, z_sub, z_mul, z_lt, z_eq, gI_mk, gJ_mk, cI_some, cV_some, cJ_some, cI_x, cV_x, cJ_x, uS_self, uS_ne, if_pos, if_neg, b01, b01n, ite_not, if_true, if_false, hLL, e1, e2, z_shl1, z_or, rI_d]
  rfl
theorem c_going (hL : CL S (iL bl) nT nR nC rd) (hs : CS nR nC S (iS bs) s) (hoff : ∀ r, 0 ≤ r → r < nR → 0 ≤ s r ∧ s r < 7) {t : Int} (ht : 0 ≤ t ∧ t < 7) : am_call X aP (d + 2) 10 [.ref ((iL bl)), .ref ((iS bs)), .int (zI t)] (mkS w (hI S) J) = some (.inl (some (.int (zI ((goB nR s t : Nat))))), (mkS w (hI S) J)) := by
  have hL0 := hL
  obtain ⟨a1, a2, a3, a4, a5, a6, a7, a8, a9, a10, a11⟩ := hL
  rw [go_X1_going, e_X1_going_0]
  simp (disch := omega) only [hk, hu, hI_n, hI_un, z_nat, em_d, zl, z_add, z_sub, z_mul, z_lt, z_eq, gI_mk, gJ_mk, cI_some, cV_some, cJ_some, cI_x, cV_x, cJ_x, uS_self, uS_ne, if_pos, if_neg, b01, b01n, ite_not, if_true, if_false, hLL, c_restingJ hL0 hs hoff, a2, z_shl1]
  have e : zI ((2 ^ nR.toNat : Nat) : Int) - zI 1 = zI ((2 ^ nR.toNat - 1 : Nat) : Int) := z_all a7 (by omega)
  rw [z_sub] at e
  rw [e, z_andn, goB_eq nR s t a7]
  simp only [rI_d]
theorem c_joins (hL : CL S (iL bl) nT nR nC rd) (hE : Ends nT nR rd) {roads : Nat} (hr : roads < 2147483648) : am_call X aP (d + 2) 11 [.ref ((iL bl)), .int (zI ((roads : Int)))] (mkS w (hI S) J) = some (.inl (some (.int (zI (if joinM rd nT nR roads then 1 else 0)))), (mkS w (hI S) J)) := by
  have hL0 := hL
  obtain ⟨a1, a2, a3, a4, a5, a6, a7, a8, a9, a10, a11⟩ := hL
  have hp : 0 < 2 ^ nT.toNat := Nat.two_pow_pos _
  have hp2 : 2 ^ nT.toNat ≤ 2 ^ 7 := Nat.pow_le_pow_right (by decide) (by omega)
  have hp7 : (2 : Nat) ^ 7 = 128 := rfl
  have eall : zI ((2 ^ nT.toNat : Nat) : Int) - zI 1 = zI ((2 ^ nT.toNat - 1 : Nat) : Int) := z_all a5 (by omega)
  rw [go_X1_joins, e_X1_joins_0]
  have e1 : zI 1 = zI ((1 : Nat) : Int) := rfl
  simp (disch := omega) only [hk, hu, hI_n, hI_un, z_nat, em_d, zl, z_add, z_sub, z_mul, z_lt, z_eq, gI_mk, gJ_mk, cI_some, cV_some, cJ_some, cI_x, cV_x, cJ_x, uS_self, uS_ne, if_pos, if_neg, b01, b01n, ite_not, if_true, if_false, hLL, a1, z_shl1]
  rw [z_sub] at eall
  rw [eall, e1, z_and]
  -- a round
  have round : ∀ (x : Int) (m : Nat), m < 2 ^ nT.toNat → ∀ n, (nR.toNat + 1) ≤ n → ∃ n', n ≤ n' + (nR.toNat + 1) ∧ aR X (d + 1) m_X1_joins n 22 [some (.ref ((iL bl))), some (.int (zI ((roads : Int)))), some (.int (zI (((2 ^ nT.toNat - 1 : Nat) : Int)))), some (.int (zI ((m : Int)))), some (.int (zI x)), some (.int (zI 0)), none] (0, 0) (mkS w (hI S) J) = aR X (d + 1) m_X1_joins n' 13 [some (.ref ((iL bl))), some (.int (zI ((roads : Int)))), some (.int (zI (((2 ^ nT.toNat - 1 : Nat) : Int)))), some (.int (zI ((jround rd nR roads m : Nat)))), some (.int (zI ((x + 1)))), none, none] (0, 0) (mkS w (hI S) J) := by
    intro x m hm n hn
    obtain ⟨v, g⟩ := loopG (fun n k (m : Nat) => aR X (d + 1) m_X1_joins n 22 [some (.ref ((iL bl))), some (.int (zI ((roads : Int)))), some (.int (zI (((2 ^ nT.toNat - 1 : Nat) : Int)))), some (.int (zI ((m : Int)))), some (.int (zI x)), some (.int (zI k)), none] (0, 0) (mkS w (hI S) J)) (jstep rd roads) (fun _ m => m < 2 ^ nT.toNat) nR 1 (fun n k m q1 q2 q3 h9 => by
      obtain ⟨n, rfl⟩ : ∃ n', n = n' + 1 := ⟨n - 1, by omega⟩
      refine ⟨n, by omega, ?_⟩
      show aR X (d + 1) m_X1_joins (n + 1) 22 [some (.ref ((iL bl))), some (.int (zI ((roads : Int)))), some (.int (zI (((2 ^ nT.toNat - 1 : Nat) : Int)))), some (.int (zI ((m : Int)))), some (.int (zI x)), some (.int (zI k)), none] (0, 0) (mkS w (hI S) J) = _
      have hb := endB_lt hE ⟨q1, q2⟩
      have hm4 : m &&& endB rd k < 2147483648 := Nat.lt_of_le_of_lt Nat.and_le_left (by have : m < 2 ^ nT.toNat := q3; omega)
      rw [e_X1_joins_22]
      unfold jstep
      by_cases p1 : roads.testBit k.toNat = true
      · by_cases p2 : m &&& endB rd k = 0
        · simp (disch := omega) only [hk, hu, hI_n, hI_un, z_nat, em_d, zl, z_add, z_sub, z_mul, z_lt, z_eq, gI_mk, gJ_mk, cI_some, cV_some, cJ_some, cI_x, cV_x, cJ_x, uS_self, uS_ne, if_pos, if_neg, b01, b01n, ite_not, if_true, if_false, hLL, a2, c_ends hL0, z_bit hr, p1, z_and, z_zero hm4, p2, not_true_eq_false, and_false]
        · simp (disch := omega) only [hk, hu, hI_n, hI_un, z_nat, em_d, zl, z_add, z_sub, z_mul, z_lt, z_eq, gI_mk, gJ_mk, cI_some, cV_some, cJ_some, cI_x, cV_x, cJ_x, uS_self, uS_ne, if_pos, if_neg, b01, b01n, ite_not, if_true, if_false, hLL, a2, c_ends hL0, z_bit hr, p1, z_and, z_zero hm4, p2, not_false_eq_true, and_self, z_or]
      · simp (disch := omega) only [hk, hu, hI_n, hI_un, z_nat, em_d, zl, z_add, z_sub, z_mul, z_lt, z_eq, gI_mk, gJ_mk, cI_some, cV_some, cJ_some, cI_x, cV_x, cJ_x, uS_self, uS_ne, if_pos, if_neg, b01, b01n, ite_not, if_true, if_false, hLL, a2, c_ends hL0, z_bit hr, p1, Bool.false_eq_true, false_and]) (fun k m q1 q2 q3 => jstep_lt hE ⟨q1, q2⟩ q3) nR.toNat 0 m (by omega) (by omega) hm
    obtain ⟨n', h1, h2⟩ := g n (by omega)
    obtain ⟨n', rfl⟩ : ∃ m, n' = m + 1 := ⟨n' - 1, by omega⟩
    refine ⟨n', by omega, h2.trans ?_⟩
    show aR X (d + 1) m_X1_joins (n' + 1) 22 [some (.ref ((iL bl))), some (.int (zI ((roads : Int)))), some (.int (zI (((2 ^ nT.toNat - 1 : Nat) : Int)))), some (.int (zI ((jround rd nR roads m : Nat)))), some (.int (zI x)), some (.int (zI nR)), none] (0, 0) (mkS w (hI S) J) = _
    rw [e_X1_joins_22]
    simp (disch := omega) only [hk, hu, hI_n, hI_un, z_nat, em_d, zl, z_add, z_sub, z_mul, z_lt, z_eq, gI_mk, gJ_mk, cI_some, cV_some, cJ_some, cI_x, cV_x, cJ_x, uS_self, uS_ne, if_pos, if_neg, b01, b01n, ite_not, if_true, if_false, hLL, a2]
  have fin : ∀ (m : Nat) n, m < 2 ^ nT.toNat → 1 ≤ n → aR X (d + 1) m_X1_joins n 49 [none, none, some (.int (zI (((2 ^ nT.toNat - 1 : Nat) : Int)))), some (.int (zI ((m : Int)))), none, none, none] (0, 0) (mkS w (hI S) J) = some (.inl (some (.int (zI (if m = 2 ^ nT.toNat - 1 then 1 else 0)))), (mkS w (hI S) J)) := by
    intro m n hm hn
    obtain ⟨n, rfl⟩ : ∃ m, n = m + 1 := ⟨n - 1, by omega⟩
    rw [e_X1_joins_49]
    by_cases p : m = 2 ^ nT.toNat - 1
    · simp (disch := omega) only [hk, hu, hI_n, hI_un, z_nat, em_d, zl, z_add, z_sub, z_mul, z_lt, z_eq, gI_mk, gJ_mk, cI_some, cV_some, cJ_some, cI_x, cV_x, cJ_x, uS_self, uS_ne, if_pos, if_neg, b01, b01n, ite_not, if_true, if_false, hLL, rI_d]
    · simp (disch := omega) only [hk, hu, hI_n, hI_un, z_nat, em_d, zl, z_add, z_sub, z_mul, z_lt, z_eq, gI_mk, gJ_mk, cI_some, cV_some, cJ_some, cI_x, cV_x, cJ_x, uS_self, uS_ne, if_pos, if_neg, b01, b01n, ite_not, if_true, if_false, hLL, rI_d]
  by_cases h0 : nT = 0
  · have e2 : 1 &&& (2 ^ nT.toNat - 1) = 2 ^ nT.toNat - 1 := by rw [h0]; rfl
    rw [e2, if_pos (show joinM rd nT nR roads from Or.inl h0), show 9999999 = 9999998 + 1 from rfl, e_X1_joins_13]
    simp (disch := omega) only [hk, hu, hI_n, hI_un, z_nat, em_d, zl, z_add, z_sub, z_mul, z_lt, z_eq, gI_mk, gJ_mk, cI_some, cV_some, cJ_some, cI_x, cV_x, cJ_x, uS_self, uS_ne, if_pos, if_neg, b01, b01n, ite_not, if_true, if_false, hLL, a1]
    rw [fin _ _ (by omega) (by decide), if_pos rfl]
  · have e2 : 1 &&& (2 ^ nT.toNat - 1) = 2 ^ (0 : Int).toNat := by
      obtain ⟨m, hm⟩ : ∃ m, nT.toNat = m + 1 := ⟨nT.toNat - 1, by omega⟩
      have hm2 : 0 < 2 ^ m := Nat.two_pow_pos _
      rw [hm, Nat.and_comm, Nat.and_one_is_mod, Nat.pow_succ]
      show (2 ^ m * 2 - 1) % 2 = 1
      omega
    rw [e2]
    have hm0 : 2 ^ (0 : Int).toNat < 2 ^ nT.toNat := Nat.pow_lt_pow_right (by decide) (by omega)
    have main : ∀ (j : Nat) (k : Nat) (n : Nat), (k : Int) + j = nT → (nR.toNat + 2) * j + 2 ≤ n → aR X (d + 1) m_X1_joins n 13 [some (.ref ((iL bl))), some (.int (zI ((roads : Int)))), some (.int (zI (((2 ^ nT.toNat - 1 : Nat) : Int)))), some (.int (zI ((jrun rd nR roads k (2 ^ (0 : Int).toNat) : Nat)))), some (.int (zI ((k : Int)))), none, none] (0, 0) (mkS w (hI S) J) = some (.inl (some (.int (zI (if jrun rd nR roads nT.toNat (2 ^ (0 : Int).toNat) = 2 ^ nT.toNat - 1 then 1 else 0)))), (mkS w (hI S) J)) := by
      intro j
      induction j with
      | zero =>
        intro k n hkk hn
        obtain ⟨n, rfl⟩ : ∃ m, n = m + 1 := ⟨n - 1, by omega⟩
        have hkt : k = nT.toNat := by omega
        rw [e_X1_joins_13]
        simp (disch := omega) only [hk, hu, hI_n, hI_un, z_nat, em_d, zl, z_add, z_sub, z_mul, z_lt, z_eq, gI_mk, gJ_mk, cI_some, cV_some, cJ_some, cI_x, cV_x, cJ_x, uS_self, uS_ne, if_pos, if_neg, b01, b01n, ite_not, if_true, if_false, hLL, a1]
        rw [fin _ _ (jrun_lt hE a7 hm0 k) (by omega), hkt]
      | succ j ih =>
        intro k n hkk hn
        have hmul : (nR.toNat + 2) * (j + 1) = (nR.toNat + 2) * j + (nR.toNat + 2) := Nat.mul_succ _ _
        obtain ⟨n, rfl⟩ : ∃ m, n = m + 1 := ⟨n - 1, by omega⟩
        have hl := jrun_lt hE (roads := roads) a7 hm0 k
        rw [e_X1_joins_13]
        by_cases p : jrun rd nR roads k (2 ^ (0 : Int).toNat) = 2 ^ nT.toNat - 1
        · simp (disch := omega) only [hk, hu, hI_n, hI_un, z_nat, em_d, zl, z_add, z_sub, z_mul, z_lt, z_eq, gI_mk, gJ_mk, cI_some, cV_some, cJ_some, cI_x, cV_x, cJ_x, uS_self, uS_ne, if_pos, if_neg, b01, b01n, ite_not, if_true, if_false, hLL, a1]
          rw [fin _ _ hl (by omega), if_pos p, if_pos]
          have := jrun_full hE a7 p (nT.toNat - k)
          rw [show k + (nT.toNat - k) = nT.toNat by omega] at this
          exact this
        · simp (disch := omega) only [hk, hu, hI_n, hI_un, z_nat, em_d, zl, z_add, z_sub, z_mul, z_lt, z_eq, gI_mk, gJ_mk, cI_some, cV_some, cJ_some, cI_x, cV_x, cJ_x, uS_self, uS_ne, if_pos, if_neg, b01, b01n, ite_not, if_true, if_false, hLL, a1]
          obtain ⟨n', g1, g2⟩ := round (k : Int) _ hl n (by omega)
          rw [g2]
          have := ih (k + 1) n' (by omega) (by omega)
          rw [show ((k + 1 : Nat) : Int) = (k : Int) + 1 by omega] at this
          exact this
    have := main nT.toNat 0 9999999 (by omega) (by
      have : nR.toNat + 2 ≤ 14 := by omega
      have := Nat.mul_le_mul this (show nT.toNat ≤ 7 by omega)
      omega)
    have e3 : jrun rd nR roads 0 (2 ^ (0 : Int).toNat) = 2 ^ (0 : Int).toNat := rfl
    rw [e3] at this
    rw [show ((0 : Nat) : Int) = 0 from rfl] at this
    rw [this]
    by_cases p : jrun rd nR roads nT.toNat (2 ^ (0 : Int).toNat) = 2 ^ nT.toNat - 1
    · rw [if_pos p, if_pos (show joinM rd nT nR roads from Or.inr p)]
    · rw [if_neg p, if_neg (fun z : joinM rd nT nR roads => by rcases z with z | z; exact h0 z; exact p z)]
end JNS
section JNM
variable {X : Nat × (Nat → Int32)} {d : Nat} {w : Bool × Bool × Bool} {S : Hp} {J : Nat → Nat → Int64} {nT nR nC : Int} {rd s : Int → Int} {cd : List (Int × Int)} {bl bs bw : Bool}
theorem goB_lt (nR : Int) (s : Int → Int) (t : Int) (hR : nR ≤ 12) : goB nR s t < 2147483648 := nat_lt_two (bits_lt _ _) (by omega)
theorem c_joinedDays (hL : CL S (iL bl) nT nR nC rd) (hE : Ends nT nR rd) (hs : CS nR nC S (iS bs) s) (hoff : ∀ r, 0 ≤ r → r < nR → 0 ≤ s r ∧ s r < 7) : am_call X aP (d + 3) 12 [.ref ((iL bl)), .ref ((iS bs))] (mkS w (hI S) J) = some (.inl (some (.int (zI ((joinDB rd nT nR s : Nat))))), (mkS w (hI S) J)) := by
  have a8 := hL.2.2.2.2.2.2.2.1
  rw [go_X1_joinedDays, e_X1_joinedDays_0, z_0]
  refine loop_bits (fun n k m => aR X (d + 2) m_X1_joinedDays n 4 [some (.ref ((iL bl))), some (.ref ((iS bs))), some (.int (zI m)), some (.int (zI k))] (0, 0) (mkS w (hI S) J)) (fun d => decide (joinM rd nT nR (goB nR s d))) 7 1 (fun m => some (.inl (some (.int (zI m))), (mkS w (hI S) J))) (by omega) (fun n k m q1 q2 q3 => ?_) (fun n m q1 => ?_) 9999999 (by omega)
  · show aR X (d + 2) m_X1_joinedDays (n + 1) 4 [some (.ref ((iL bl))), some (.ref ((iS bs))), some (.int (zI ((m : Int)))), some (.int (zI k))] (0, 0) (mkS w (hI S) J) = aR X (d + 2) m_X1_joinedDays n 4 [some (.ref ((iL bl))), some (.ref ((iS bs))), some (.int (zI (((m ||| (if decide (joinM rd nT nR (goB nR s k)) = true then 2 ^ k.toNat else 0) : Nat) : Int)))), some (.int (zI ((k + 1))))] (0, 0) (mkS w (hI S) J)
    have h1 := fun d => c_going (X := X) (d := d) (w := w) (J := J) hL hs hoff (t := k) ⟨q1, q2⟩
    have h2 := fun d => c_joins (X := X) (d := d) (w := w) (J := J) hL hE (roads := goB nR s k) (goB_lt nR s k a8)
    rw [e_X1_joinedDays_4]
    simp (disch := omega) only [hk, hu, hI_n, hI_un, z_nat, em_d, zl, z_add, z_sub, z_mul, z_lt, z_eq, gI_mk, gJ_mk, cI_some, cV_some, cJ_some, cI_x, cV_x, cJ_x, uS_self, uS_ne, if_pos, if_neg, b01, b01n, ite_not, if_true, if_false, hLL]
    rw [h1]
    simp (disch := omega) only [hk, hu, hI_n, hI_un, z_nat, em_d, zl, z_add, z_sub, z_mul, z_lt, z_eq, gI_mk, gJ_mk, cI_some, cV_some, cJ_some, cI_x, cV_x, cJ_x, uS_self, uS_ne, if_pos, if_neg, b01, b01n, ite_not, if_true, if_false, hLL]
    rw [h2]
    by_cases q : joinM rd nT nR (goB nR s k)
    · simp (disch := omega) only [hk, hu, hI_n, hI_un, z_nat, em_d, zl, z_add, z_sub, z_mul, z_lt, z_eq, gI_mk, gJ_mk, cI_some, cV_some, cJ_some, cI_x, cV_x, cJ_x, uS_self, uS_ne, if_pos, if_neg, b01, b01n, ite_not, if_true, if_false, hLL, if_pos q, decide_eq_true_eq, z_shl1, z_or]
    · simp (disch := omega) only [hk, hu, hI_n, hI_un, z_nat, em_d, zl, z_add, z_sub, z_mul, z_lt, z_eq, gI_mk, gJ_mk, cI_some, cV_some, cJ_some, cI_x, cV_x, cJ_x, uS_self, uS_ne, if_pos, if_neg, b01, b01n, ite_not, if_true, if_false, hLL, if_neg q, decide_eq_true_eq, z_or0, Nat.or_zero]
  · obtain ⟨n, rfl⟩ : ∃ n', n = n' + 1 := ⟨n - 1, by omega⟩
    show aR X (d + 2) m_X1_joinedDays (n + 1) 4 [some (.ref ((iL bl))), some (.ref ((iS bs))), some (.int (zI m)), some (.int (zI 7))] (0, 0) (mkS w (hI S) J) = _
    rw [e_X1_joinedDays_4]
    simp (disch := omega) only [hk, hu, hI_n, hI_un, z_nat, em_d, zl, z_add, z_sub, z_mul, z_lt, z_eq, gI_mk, gJ_mk, cI_some, cV_some, cJ_some, cI_x, cV_x, cJ_x, uS_self, uS_ne, if_pos, if_neg, b01, b01n, ite_not, if_true, if_false, hLL, rI_d]
theorem joinDB_pop (rd : Int → Int) (nT nR : Int) (s : Int → Int) : joinDB rd nT nR s < 128 ∧ popc (joinDB rd nT nR s) = joinN rd nT nR s := by
  refine ⟨bits_lt _ 7, ?_⟩
  unfold joinDB joinN
  rw [popc_bits _ _ (by decide)]
  exact sumZ_congr 7 (fun k _ _ => by simp only [decide_eq_true_eq])
theorem m_goingOn (hL : LdP S nT nR nC rd) (hs : ScP nR nC S s) (hoff : ∀ r, 0 ≤ r → r < nR → 0 ≤ s r ∧ s r < 7) {t : Int} (ht : 0 ≤ t ∧ t < 7) : am_call X aP (d + 1) 235 [.ref 132, .int (zI t)] (mkS w (hI S) J) = some (.inl (some (.int (zI ((goB nR s t : Nat))))), (mkS w (hI S) J)) := by
  obtain ⟨a1, a2, a3, a4, a5, a6, a7, a8, a9, a10, a11⟩ := hL
  rw [go_X10_goingOn, e_X10_goingOn_0, z_0]
  refine loop_bits (fun n k m => aR X d m_X10_goingOn n 4 [some (.ref 132), some (.int (zI t)), some (.int (zI m)), some (.int (zI k))] (0, 0) (mkS w (hI S) J)) (fun r => decide (¬ s r = t)) nR 1 (fun m => some (.inl (some (.int (zI m))), (mkS w (hI S) J))) (by omega) (fun n k m q1 q2 q3 => ?_) (fun n m q1 => ?_) 9999999 (by omega)
  · show aR X d m_X10_goingOn (n + 1) 4 [some (.ref 132), some (.int (zI t)), some (.int (zI ((m : Int)))), some (.int (zI k))] (0, 0) (mkS w (hI S) J) = aR X d m_X10_goingOn n 4 [some (.ref 132), some (.int (zI t)), some (.int (zI (((m ||| (if decide (¬ s k = t) = true then 2 ^ k.toNat else 0) : Nat) : Int)))), some (.int (zI ((k + 1))))] (0, 0) (mkS w (hI S) J)
    rw [e_X10_goingOn_4]
    have e := hs k (by unfold Vd; omega)
    have v := hoff k q1 q2
    by_cases q : s k = t
    · simp (disch := omega) only [hk, hu, hI_n, hI_un, z_nat, em_d, zl, z_add, z_sub, z_mul, z_lt, z_eq, gI_mk, gJ_mk, cI_some, cV_some, cJ_some, cI_x, cV_x, cJ_x, uS_self, uS_ne, if_pos, if_neg, b01, b01n, ite_not, if_true, if_false, Int.zero_add, a2, e, q, z_shl1, z_or, z_or0, decide_true, decide_false, Bool.false_eq_true, Nat.or_zero, not_true_eq_false, not_false_eq_true, eq_self]
    · simp (disch := omega) only [hk, hu, hI_n, hI_un, z_nat, em_d, zl, z_add, z_sub, z_mul, z_lt, z_eq, gI_mk, gJ_mk, cI_some, cV_some, cJ_some, cI_x, cV_x, cJ_x, uS_self, uS_ne, if_pos, if_neg, b01, b01n, ite_not, if_true, if_false, Int.zero_add, a2, e, q, z_shl1, z_or, z_or0, decide_true, decide_false, Bool.false_eq_true, Nat.or_zero, not_true_eq_false, not_false_eq_true, eq_self]
  · obtain ⟨n, rfl⟩ : ∃ n', n = n' + 1 := ⟨n - 1, by omega⟩
    show aR X d m_X10_goingOn (n + 1) 4 [some (.ref 132), some (.int (zI t)), some (.int (zI m)), some (.int (zI nR))] (0, 0) (mkS w (hI S) J) = _
    rw [e_X10_goingOn_4]
    simp (disch := omega) only [hk, hu, hI_n, hI_un, z_nat, em_d, zl, z_add, z_sub, z_mul, z_lt, z_eq, gI_mk, gJ_mk, cI_some, cV_some, cJ_some, cI_x, cV_x, cJ_x, uS_self, uS_ne, if_pos, if_neg, b01, b01n, ite_not, if_true, if_false, a2, rI_d]
theorem m_cameTo (hL : LdP S nT nR nC rd) (hE : Ends nT nR rd) {t : Int} (ht : 0 ≤ t ∧ t < nT) {roads : Nat} (hr : roads < 2147483648) : am_call X aP (d + 1) 236 [.ref 132, .int (zI t), .int (zI ((roads : Int)))] (mkS w (hI S) J) = some (.inl (some (.int (zI ((reachM rd nT nR roads t : Nat))))), (mkS w (hI S) J)) := by
  obtain ⟨a1, a2, a3, a4, a5, a6, a7, a8, a9, a10, a11⟩ := hL
  have hp2 : 2 ^ nT.toNat ≤ 2 ^ 7 := Nat.pow_le_pow_right (by decide) (by omega)
  have hp7 : (2 : Nat) ^ 7 = 128 := rfl
  have hm0 : 2 ^ t.toNat < 2 ^ nT.toNat := Nat.pow_lt_pow_right (by decide) (by omega)
  rw [go_X10_cameTo, e_X10_cameTo_0]
  simp (disch := omega) only [hk, hu, hI_n, hI_un, z_nat, em_d, zl, z_add, z_sub, z_mul, z_lt, z_eq, gI_mk, gJ_mk, cI_some, cV_some, cJ_some, cI_x, cV_x, cJ_x, uS_self, uS_ne, if_pos, if_neg, b01, b01n, ite_not, if_true, if_false, z_shl1]
  have round : ∀ (x : Int) (m : Nat), m < 2 ^ nT.toNat → ∀ n, (nR.toNat + 1) ≤ n → ∃ n', n ≤ n' + (nR.toNat + 1) ∧ aR X d m_X10_cameTo n 12 [some (.ref 132), none, some (.int (zI ((roads : Int)))), some (.int (zI ((m : Int)))), some (.int (zI x)), some (.int (zI 0)), none] (0, 0) (mkS w (hI S) J) = aR X d m_X10_cameTo n' 6 [some (.ref 132), none, some (.int (zI ((roads : Int)))), some (.int (zI ((jround rd nR roads m : Nat)))), some (.int (zI ((x + 1)))), none, none] (0, 0) (mkS w (hI S) J) := by
    intro x m hm n hn
    obtain ⟨v, g⟩ := loopG (fun n k (m : Nat) => aR X d m_X10_cameTo n 12 [some (.ref 132), none, some (.int (zI ((roads : Int)))), some (.int (zI ((m : Int)))), some (.int (zI x)), some (.int (zI k)), none] (0, 0) (mkS w (hI S) J)) (jstep rd roads) (fun _ m => m < 2 ^ nT.toNat) nR 1 (fun n k m q1 q2 q3 h9 => by
      obtain ⟨n, rfl⟩ : ∃ n', n = n' + 1 := ⟨n - 1, by omega⟩
      refine ⟨n, by omega, ?_⟩
      show aR X d m_X10_cameTo (n + 1) 12 [some (.ref 132), none, some (.int (zI ((roads : Int)))), some (.int (zI ((m : Int)))), some (.int (zI x)), some (.int (zI k)), none] (0, 0) (mkS w (hI S) J) = _
      have e1 := a4 (4 * k) (by omega) (by omega)
      have e2 := a4 (4 * k + 1) (by omega) (by omega)
      obtain ⟨b1, b2, b3, b4, -⟩ := a11 k q1 q2
      have hb : 2 ^ (rd (4 * k)).toNat ||| 2 ^ (rd (4 * k + 1)).toNat < 2 ^ nT.toNat := endB_lt hE ⟨q1, q2⟩
      have hm4 : m &&& (2 ^ (rd (4 * k)).toNat ||| 2 ^ (rd (4 * k + 1)).toNat) < 2147483648 := Nat.lt_of_le_of_lt Nat.and_le_left (by have : m < 2 ^ nT.toNat := q3; omega)
      rw [e_X10_cameTo_12]
      unfold jstep endB
      by_cases p1 : roads.testBit k.toNat = true
      · by_cases p2 : m &&& (2 ^ (rd (4 * k)).toNat ||| 2 ^ (rd (4 * k + 1)).toNat) = 0
        · simp (disch := omega) only [hk, hu, hI_n, hI_un, z_nat, em_d, zl, z_add, z_sub, z_mul, z_lt, z_eq, gI_mk, gJ_mk, cI_some, cV_some, cJ_some, cI_x, cV_x, cJ_x, uS_self, uS_ne, if_pos, if_neg, b01, b01n, ite_not, if_true, if_false, a2, e1, e2, z_bit hr, z_shl1, p1, z_or, z_and, z_zero hm4, p2, not_true_eq_false, and_false]
        · simp (disch := omega) only [hk, hu, hI_n, hI_un, z_nat, em_d, zl, z_add, z_sub, z_mul, z_lt, z_eq, gI_mk, gJ_mk, cI_some, cV_some, cJ_some, cI_x, cV_x, cJ_x, uS_self, uS_ne, if_pos, if_neg, b01, b01n, ite_not, if_true, if_false, a2, e1, e2, z_bit hr, z_shl1, p1, z_and, z_zero hm4, p2, not_false_eq_true, and_self, z_or]
      · simp (disch := omega) only [hk, hu, hI_n, hI_un, z_nat, em_d, zl, z_add, z_sub, z_mul, z_lt, z_eq, gI_mk, gJ_mk, cI_some, cV_some, cJ_some, cI_x, cV_x, cJ_x, uS_self, uS_ne, if_pos, if_neg, b01, b01n, ite_not, if_true, if_false, a2, e1, e2, z_bit hr, p1, Bool.false_eq_true, false_and]) (fun k m q1 q2 q3 => jstep_lt hE ⟨q1, q2⟩ q3) nR.toNat 0 m (by omega) (by omega) hm
    obtain ⟨n', h1, h2⟩ := g n (by omega)
    obtain ⟨n', rfl⟩ : ∃ m, n' = m + 1 := ⟨n' - 1, by omega⟩
    refine ⟨n', by omega, h2.trans ?_⟩
    show aR X d m_X10_cameTo (n' + 1) 12 [some (.ref 132), none, some (.int (zI ((roads : Int)))), some (.int (zI ((jround rd nR roads m : Nat)))), some (.int (zI x)), some (.int (zI nR)), none] (0, 0) (mkS w (hI S) J) = _
    rw [e_X10_cameTo_12]
    simp (disch := omega) only [hk, hu, hI_n, hI_un, z_nat, em_d, zl, z_add, z_sub, z_mul, z_lt, z_eq, gI_mk, gJ_mk, cI_some, cV_some, cJ_some, cI_x, cV_x, cJ_x, uS_self, uS_ne, if_pos, if_neg, b01, b01n, ite_not, if_true, if_false, a2]
  have main : ∀ (j : Nat) (k : Nat) (n : Nat), (k : Int) + j = nT → (nR.toNat + 2) * j + 2 ≤ n → aR X d m_X10_cameTo n 6 [some (.ref 132), none, some (.int (zI ((roads : Int)))), some (.int (zI ((jrun rd nR roads k (2 ^ t.toNat) : Nat)))), some (.int (zI ((k : Int)))), none, none] (0, 0) (mkS w (hI S) J) = some (.inl (some (.int (zI ((jrun rd nR roads nT.toNat (2 ^ t.toNat) : Nat))))), (mkS w (hI S) J)) := by
    intro j
    induction j with
    | zero =>
      intro k n hkk hn
      obtain ⟨n, rfl⟩ : ∃ m, n = m + 1 := ⟨n - 1, by omega⟩
      have hkt : k = nT.toNat := by omega
      rw [e_X10_cameTo_6]
      simp (disch := omega) only [hk, hu, hI_n, hI_un, z_nat, em_d, zl, z_add, z_sub, z_mul, z_lt, z_eq, gI_mk, gJ_mk, cI_some, cV_some, cJ_some, cI_x, cV_x, cJ_x, uS_self, uS_ne, if_pos, if_neg, b01, b01n, ite_not, if_true, if_false, a1, rI_d]
      rw [hkt]
    | succ j ih =>
      intro k n hkk hn
      have hmul : (nR.toNat + 2) * (j + 1) = (nR.toNat + 2) * j + (nR.toNat + 2) := Nat.mul_succ _ _
      obtain ⟨n, rfl⟩ : ∃ m, n = m + 1 := ⟨n - 1, by omega⟩
      have hl := jrun_lt hE (roads := roads) a7 hm0 k
      rw [e_X10_cameTo_6]
      simp (disch := omega) only [hk, hu, hI_n, hI_un, z_nat, em_d, zl, z_add, z_sub, z_mul, z_lt, z_eq, gI_mk, gJ_mk, cI_some, cV_some, cJ_some, cI_x, cV_x, cJ_x, uS_self, uS_ne, if_pos, if_neg, b01, b01n, ite_not, if_true, if_false, a1]
      obtain ⟨n', g1, g2⟩ := round (k : Int) _ hl n (by omega)
      rw [g2]
      have := ih (k + 1) n' (by omega) (by omega)
      rw [show ((k + 1 : Nat) : Int) = (k : Int) + 1 by omega] at this
      exact this
  have := main nT.toNat 0 9999999 (by omega) (by
    have : nR.toNat + 2 ≤ 14 := by omega
    have := Nat.mul_le_mul this (show nT.toNat ≤ 7 by omega)
    omega)
  exact this
theorem m_areJoined (hL : LdP S nT nR nC rd) (hE : Ends nT nR rd) (hs : ScP nR nC S s) (hoff : ∀ r, 0 ≤ r → r < nR → 0 ≤ s r ∧ s r < 7) {t : Int} (ht : 0 ≤ t ∧ t < 7) : am_call X aP (d + 2) 237 [.ref 132, .int (zI t)] (mkS w (hI S) J) = some (.inl (some (.int (zI (if joinM rd nT nR (goB nR s t) then 1 else 0)))), (mkS w (hI S) J)) := by
  have hL0 := hL
  obtain ⟨a1, a2, a3, a4, a5, a6, a7, a8, a9, a10, a11⟩ := hL
  rw [go_X10_areJoined, e_X10_areJoined_0]
  by_cases h0 : nT = 0
  · rw [if_pos (show joinM rd nT nR (goB nR s t) from Or.inl h0)]
    simp (disch := omega) only [hk, hu, hI_n, hI_un, z_nat, em_d, zl, z_add, z_sub, z_mul, z_lt, z_eq, gI_mk, gJ_mk, cI_some, cV_some, cJ_some, cI_x, cV_x, cJ_x, uS_self, uS_ne, if_pos, if_neg, b01, b01n, ite_not, if_true, if_false, a1, rI_d]
  · have h1 := fun d => m_goingOn (X := X) (d := d) (w := w) (J := J) hL0 hs hoff ht
    have h2 := fun d => m_cameTo (X := X) (d := d) (w := w) (J := J) hL0 hE (t := 0) (by omega) (goB_lt nR s t a8)
    have hp : 0 < 2 ^ nT.toNat := Nat.two_pow_pos _
    have hp2 : 2 ^ nT.toNat ≤ 2 ^ 7 := Nat.pow_le_pow_right (by decide) (by omega)
    have hp7 : (2 : Nat) ^ 7 = 128 := rfl
    have hl : reachM rd nT nR (goB nR s t) 0 < 2 ^ nT.toNat := jrun_lt hE a7 (Nat.pow_lt_pow_right (by decide) (by omega)) _
    simp (disch := omega) only [hk, hu, hI_n, hI_un, z_nat, em_d, zl, z_add, z_sub, z_mul, z_lt, z_eq, gI_mk, gJ_mk, cI_some, cV_some, cJ_some, cI_x, cV_x, cJ_x, uS_self, uS_ne, if_pos, if_neg, b01, b01n, ite_not, if_true, if_false, a1]
    rw [h1]
    simp (disch := omega) only [hk, hu, hI_n, hI_un, z_nat, em_d, zl, z_add, z_sub, z_mul, z_lt, z_eq, gI_mk, gJ_mk, cI_some, cV_some, cJ_some, cI_x, cV_x, cJ_x, uS_self, uS_ne, if_pos, if_neg, b01, b01n, ite_not, if_true, if_false]
    rw [h2]
    simp (disch := omega) only [hk, hu, hI_n, hI_un, z_nat, em_d, zl, z_add, z_sub, z_mul, z_lt, z_eq, gI_mk, gJ_mk, cI_some, cV_some, cJ_some, cI_x, cV_x, cJ_x, uS_self, uS_ne, if_pos, if_neg, b01, b01n, ite_not, if_true, if_false, a1, z_shl1]
    by_cases p : reachM rd nT nR (goB nR s t) 0 = 2 ^ nT.toNat - 1
    · rw [if_pos (show joinM rd nT nR (goB nR s t) from Or.inr p)]
      simp (disch := omega) only [hk, hu, hI_n, hI_un, z_nat, em_d, zl, z_add, z_sub, z_mul, z_lt, z_eq, gI_mk, gJ_mk, cI_some, cV_some, cJ_some, cI_x, cV_x, cJ_x, uS_self, uS_ne, if_pos, if_neg, b01, b01n, ite_not, if_true, if_false, rI_d]
    · rw [if_neg (fun z : joinM rd nT nR (goB nR s t) => by rcases z with z | z; exact h0 z; exact p z)]
      simp (disch := omega) only [hk, hu, hI_n, hI_un, z_nat, em_d, zl, z_add, z_sub, z_mul, z_lt, z_eq, gI_mk, gJ_mk, cI_some, cV_some, cJ_some, cI_x, cV_x, cJ_x, uS_self, uS_ne, if_pos, if_neg, b01, b01n, ite_not, if_true, if_false, rI_d]
theorem m_joinedDays (hL : LdP S nT nR nC rd) (hE : Ends nT nR rd) (hs : ScP nR nC S s) (hoff : ∀ r, 0 ≤ r → r < nR → 0 ≤ s r ∧ s r < 7) : am_call X aP (d + 3) 238 [.ref 132] (mkS w (hI S) J) = some (.inl (some (.int (zI (joinN rd nT nR s)))), (mkS w (hI S) J)) := by
  rw [go_X10_joinedDays, e_X10_joinedDays_0, z_0]
  have h := loopA (fun n k a => aR X (d + 2) m_X10_joinedDays n 4 [some (.ref 132), some (.int (zI a)), some (.int (zI k))] (0, 0) (mkS w (hI S) J)) (fun k a => a + (if joinM rd nT nR (goB nR s k) then 1 else 0)) (fun _ _ => True) 7 1 (fun a => some (.inl (some (.int (zI a))), (mkS w (hI S) J))) (fun n k a q1 q2 _ => by
    show aR X (d + 2) m_X10_joinedDays (n + 1) 4 [some (.ref 132), some (.int (zI a)), some (.int (zI k))] (0, 0) (mkS w (hI S) J) = aR X (d + 2) m_X10_joinedDays n 4 [some (.ref 132), some (.int (zI ((a + (if joinM rd nT nR (goB nR s k) then 1 else 0))))), some (.int (zI ((k + 1))))] (0, 0) (mkS w (hI S) J)
    rw [e_X10_joinedDays_4]
    simp (disch := omega) only [hk, hu, hI_n, hI_un, z_nat, em_d, zl, z_add, z_sub, z_mul, z_lt, z_eq, gI_mk, gJ_mk, cI_some, cV_some, cJ_some, cI_x, cV_x, cJ_x, uS_self, uS_ne, if_pos, if_neg, b01, b01n, ite_not, if_true, if_false]
    rw [m_areJoined hL hE hs hoff ⟨q1, q2⟩]
    by_cases q : joinM rd nT nR (goB nR s k)
    · simp (disch := omega) only [hk, hu, hI_n, hI_un, z_nat, em_d, zl, z_add, z_sub, z_mul, z_lt, z_eq, gI_mk, gJ_mk, cI_some, cV_some, cJ_some, cI_x, cV_x, cJ_x, uS_self, uS_ne, if_pos, if_neg, b01, b01n, ite_not, if_true, if_false, if_pos q]
    · simp (disch := omega) only [hk, hu, hI_n, hI_un, z_nat, em_d, zl, z_add, z_sub, z_mul, z_lt, z_eq, gI_mk, gJ_mk, cI_some, cV_some, cJ_some, cI_x, cV_x, cJ_x, uS_self, uS_ne, if_pos, if_neg, b01, b01n, ite_not, if_true, if_false, if_neg q]) (fun _ _ _ _ _ => trivial) (fun n a q1 _ => by
    obtain ⟨n, rfl⟩ : ∃ n', n = n' + 1 := ⟨n - 1, by omega⟩
    show aR X (d + 2) m_X10_joinedDays (n + 1) 4 [some (.ref 132), some (.int (zI a)), some (.int (zI 7))] (0, 0) (mkS w (hI S) J) = _
    rw [e_X10_joinedDays_4]
    simp (disch := omega) only [hk, hu, hI_n, hI_un, z_nat, em_d, zl, z_add, z_sub, z_mul, z_lt, z_eq, gI_mk, gJ_mk, cI_some, cV_some, cJ_some, cI_x, cV_x, cJ_x, uS_self, uS_ne, if_pos, if_neg, b01, b01n, ite_not, if_true, if_false, rI_d]) 7 0 0 (by omega) (by omega) trivial 9999999 (by omega)
  rw [fold_sum] at h
  exact h
end JNM
