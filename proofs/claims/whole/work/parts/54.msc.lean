/-! THE REFERENCE: small methods and the scene -/
theorem rI_d (r : Int32) (st : aSt) : rI r st = some (.inl (some (.int r)), st) := id rfl
theorem rV_d (st : aSt) : rV st = some (.inl none, st) := id rfl
theorem rX_d (k : Nat) (st : aSt) : rX k st = some (.inr k, st) := id rfl
theorem rJ_d (r : Int64) (st : aSt) : rJ r st = some (.inl (some (.long r)), st) := id rfl
theorem bok01 (P : Prop) [Decidable P] : bok (zI (if P then 1 else 0)) = true := by
  by_cases h : P
  · rw [if_pos h]; decide
  · rw [if_neg h]; decide
theorem bok10 (P : Prop) [Decidable P] : bok (zI (if P then 0 else 1)) = true := by
  by_cases h : P
  · rw [if_pos h]; decide
  · rw [if_neg h]; decide
/-- the land as the reference has it -/
def LdP (S : Hp) (nT nR nC : Int) (rd : Int → Int) : Prop := S 132 17 = nT ∧ S 132 18 = nR ∧ S 132 19 = nC ∧ (∀ k, 0 ≤ k → k < 48 → S 137 k = rd k) ∧ 0 ≤ nT ∧ nT ≤ 7 ∧ 0 ≤ nR ∧ nR ≤ 12 ∧ 0 ≤ nC ∧ nC ≤ 5 ∧ Rd nR rd
theorem LdP_of {S S' : Hp} {nT nR nC : Int} {rd : Int → Int} (h : LdP S nT nR nC rd) (h1 : S' 132 17 = S 132 17) (h2 : S' 132 18 = S 132 18) (h3 : S' 132 19 = S 132 19) (h4 : ∀ k, 0 ≤ k → k < 48 → S' 137 k = S 137 k) : LdP S' nT nR nC rd := by
  obtain ⟨a1, a2, a3, a4, a5⟩ := h
  exact ⟨h1.trans a1, h2.trans a2, h3.trans a3, fun k q1 q2 => (h4 k q1 q2).trans (a4 k q1 q2), a5⟩
theorem LdP_u {S : Hp} {nT nR nC : Int} {rd : Int → Int} (h : LdP S nT nR nC rd) {o : Nat} {a : Int} (v : Int) (ho : o ≠ 137 ∧ (o ≠ 132 ∨ a < 17 ∨ 19 < a)) : LdP (uS S o a v) nT nR nC rd := LdP_of h (uS_ne S v (by omega)) (uS_ne S v (by omega)) (uS_ne S v (by omega)) (fun k _ _ => uS_ne S v (by omega))
/-- the row s -/
def ScP (nR nC : Int) (S : Hp) (s : Int → Int) : Prop := ∀ k, Vd nR nC k → S 148 k = s k
theorem ScP_u {nR nC : Int} {S : Hp} {s : Int → Int} (h : ScP nR nC S s) {o : Nat} (a v : Int) (ho : o ≠ 148) : ScP nR nC (uS S o a v) s := fun k h1 => (uS_ne S v (Or.inl (fun z => ho z.symm))).trans (h k h1)
def OnR (nC : Int) (s : Int → Int) : Prop := ∀ c, 0 ≤ c → c < nC → -1 ≤ s (34 + c) ∧ s (34 + c) < 12
/-- refused: the code, the count -/
def badS (S : Hp) (cd k : Int) : Hp := uS (uS S 132 0 cd) 133 k (S 133 k + 1)
section MSC
variable {X : Nat × (Nat → Int32)} {d : Nat} {w : Bool × Bool × Bool} {S : Hp} {J : Nat → Nat → Int64}
theorem m_thrown : am_call X aP (d + 1) 152 [.ref 132] (mkS w (hI S) J) = some (.inl (some (.int (zI (S 132 0)))), (mkS w (hI S) J)) := by
  rw [go_X10_thrown, e_X10_thrown_0]
  simp only [hk, rI_d]
theorem m_within {a b c : Int} (ha : -2147483648 ≤ a ∧ a < 2147483648) (hb : -2147483648 ≤ b ∧ b < 2147483648) (hc : -2147483648 ≤ c ∧ c < 2147483648) : am_call X aP (d + 1) 154 [.int (zI a), .int (zI b), .int (zI c)] (mkS w (hI S) J) = some (.inl (some (.int (zI (if b ≤ a ∧ a ≤ c then 1 else 0)))), (mkS w (hI S) J)) := by
  rw [go_X10_within, e_X10_within_0]
  by_cases h1 : a < b
  · simp (disch := omega) only [hk, hu, hI_n, hI_un, z_nat, em_d, zl, z_add, z_sub, z_mul, z_lt, z_eq, gI_mk, gJ_mk, cI_some, cV_some, cJ_some, cI_x, cV_x, cJ_x, uS_self, uS_ne, if_pos, if_neg, b01, b01n, ite_not, if_true, if_false, rI_d]
  · by_cases h2 : c < a <;> simp (disch := omega) only [hk, hu, hI_n, hI_un, z_nat, em_d, zl, z_add, z_sub, z_mul, z_lt, z_eq, gI_mk, gJ_mk, cI_some, cV_some, cJ_some, cI_x, cV_x, cJ_x, uS_self, uS_ne, if_pos, if_neg, b01, b01n, ite_not, if_true, if_false, rI_d]
theorem m_may1 (h0 : S 132 0 = 0) (cd k : Int) : am_call X aP (d + 1) 153 [.ref 132, .int (zI 1), .int (zI cd), .int (zI k)] (mkS w (hI S) J) = some (.inl (some (.int (zI 1))), (mkS w (hI S) J)) := by
  rw [go_X10_may, e_X10_may_0]
  simp (disch := omega) only [hk, hu, hI_n, hI_un, z_nat, em_d, zl, z_add, z_sub, z_mul, z_lt, z_eq, gI_mk, gJ_mk, cI_some, cV_some, cJ_some, cI_x, cV_x, cJ_x, uS_self, uS_ne, if_pos, if_neg, b01, b01n, ite_not, if_true, if_false, show zI 1 = zI 0 ↔ False from by decide]
  rw [show 9999999 = 9999998 + 1 from rfl, e_X10_may_16]
  simp (disch := omega) only [hk, hu, hI_n, hI_un, z_nat, em_d, zl, z_add, z_sub, z_mul, z_lt, z_eq, gI_mk, gJ_mk, cI_some, cV_some, cJ_some, cI_x, cV_x, cJ_x, uS_self, uS_ne, if_pos, if_neg, b01, b01n, ite_not, if_true, if_false, h0, rI_d]
theorem m_may0 (h0 : S 132 0 = 0) {cd k : Int} (hcd : 1 ≤ cd ∧ cd ≤ 2) (hk1 : 0 ≤ k ∧ k < 2) : am_call X aP (d + 1) 153 [.ref 132, .int (zI 0), .int (zI cd), .int (zI k)] (mkS w (hI S) J) = some (.inl (some (.int (zI 0))), (mkS w (hI (badS S cd k)) J)) := by
  rw [go_X10_may, e_X10_may_0]
  simp (disch := omega) only [hk, hu, hI_n, hI_un, z_nat, em_d, zl, z_add, z_sub, z_mul, z_lt, z_eq, gI_mk, gJ_mk, cI_some, cV_some, cJ_some, cI_x, cV_x, cJ_x, uS_self, uS_ne, if_pos, if_neg, b01, b01n, ite_not, if_true, if_false, h0]
  rw [show 9999999 = 9999998 + 1 from rfl, e_X10_may_16]
  simp (disch := omega) only [hk, hu, hI_n, hI_un, z_nat, em_d, zl, z_add, z_sub, z_mul, z_lt, z_eq, gI_mk, gJ_mk, cI_some, cV_some, cJ_some, cI_x, cV_x, cJ_x, uS_self, uS_ne, if_pos, if_neg, b01, b01n, ite_not, if_true, if_false, rI_d]
  rfl
theorem m_isTown1 {nT nR nC : Int} {rd : Int → Int} (hL : LdP S nT nR nC rd) (h0 : S 132 0 = 0) {t : Int} (ht : 0 ≤ t ∧ t < nT) : am_call X aP (d + 2) 216 [.ref 132, .int (zI t)] (mkS w (hI S) J) = some (.inl (some (.int (zI 1))), (mkS w (hI S) J)) := by
  obtain ⟨a1, a2, a3, a4, a5, a6, a7, a8, a9, a10, a11⟩ := hL
  rw [go_X10_isTown, e_X10_isTown_0]
  simp (disch := omega) only [hk, hu, hI_n, hI_un, z_nat, em_d, zl, z_add, z_sub, z_mul, z_lt, z_eq, gI_mk, gJ_mk, cI_some, cV_some, cJ_some, cI_x, cV_x, cJ_x, uS_self, uS_ne, if_pos, if_neg, b01, b01n, ite_not, if_true, if_false, a1, m_within, m_may1, rI_d, z_bok1]
theorem m_isRoad1 {nT nR nC : Int} {rd : Int → Int} (hL : LdP S nT nR nC rd) (h0 : S 132 0 = 0) {t : Int} (ht : 0 ≤ t ∧ t < nR) : am_call X aP (d + 2) 217 [.ref 132, .int (zI t)] (mkS w (hI S) J) = some (.inl (some (.int (zI 1))), (mkS w (hI S) J)) := by
  obtain ⟨a1, a2, a3, a4, a5, a6, a7, a8, a9, a10, a11⟩ := hL
  rw [go_X10_isRoad, e_X10_isRoad_0]
  simp (disch := omega) only [hk, hu, hI_n, hI_un, z_nat, em_d, zl, z_add, z_sub, z_mul, z_lt, z_eq, gI_mk, gJ_mk, cI_some, cV_some, cJ_some, cI_x, cV_x, cJ_x, uS_self, uS_ne, if_pos, if_neg, b01, b01n, ite_not, if_true, if_false, a2, m_within, m_may1, rI_d, z_bok1]
theorem m_isCarter1 {nT nR nC : Int} {rd : Int → Int} (hL : LdP S nT nR nC rd) (h0 : S 132 0 = 0) {t : Int} (ht : 0 ≤ t ∧ t < nC) : am_call X aP (d + 2) 218 [.ref 132, .int (zI t)] (mkS w (hI S) J) = some (.inl (some (.int (zI 1))), (mkS w (hI S) J)) := by
  obtain ⟨a1, a2, a3, a4, a5, a6, a7, a8, a9, a10, a11⟩ := hL
  rw [go_X10_isCarter, e_X10_isCarter_0]
  simp (disch := omega) only [hk, hu, hI_n, hI_un, z_nat, em_d, zl, z_add, z_sub, z_mul, z_lt, z_eq, gI_mk, gJ_mk, cI_some, cV_some, cJ_some, cI_x, cV_x, cJ_x, uS_self, uS_ne, if_pos, if_neg, b01, b01n, ite_not, if_true, if_false, a3, m_within, m_may1, rI_d, z_bok1]
theorem m_isTown0 {nT nR nC : Int} {rd : Int → Int} (hL : LdP S nT nR nC rd) (h0 : S 132 0 = 0) {t : Int} (hr : -2147483648 ≤ t ∧ t < 2147483648) (ht : ¬ (0 ≤ t ∧ t < nT)) : am_call X aP (d + 2) 216 [.ref 132, .int (zI t)] (mkS w (hI S) J) = some (.inl (some (.int (zI 0))), (mkS w (hI (badS S 1 0)) J)) := by
  obtain ⟨a1, a2, a3, a4, a5, a6, a7, a8, a9, a10, a11⟩ := hL
  rw [go_X10_isTown, e_X10_isTown_0]
  simp (disch := omega) only [hk, hu, hI_n, hI_un, z_nat, em_d, zl, z_add, z_sub, z_mul, z_lt, z_eq, gI_mk, gJ_mk, cI_some, cV_some, cJ_some, cI_x, cV_x, cJ_x, uS_self, uS_ne, if_pos, if_neg, b01, b01n, ite_not, if_true, if_false, a1, m_within, m_may0, rI_d, z_bok0]
theorem m_isRoad0 {nT nR nC : Int} {rd : Int → Int} (hL : LdP S nT nR nC rd) (h0 : S 132 0 = 0) {t : Int} (hr : -2147483648 ≤ t ∧ t < 2147483648) (ht : ¬ (0 ≤ t ∧ t < nR)) : am_call X aP (d + 2) 217 [.ref 132, .int (zI t)] (mkS w (hI S) J) = some (.inl (some (.int (zI 0))), (mkS w (hI (badS S 1 0)) J)) := by
  obtain ⟨a1, a2, a3, a4, a5, a6, a7, a8, a9, a10, a11⟩ := hL
  rw [go_X10_isRoad, e_X10_isRoad_0]
  simp (disch := omega) only [hk, hu, hI_n, hI_un, z_nat, em_d, zl, z_add, z_sub, z_mul, z_lt, z_eq, gI_mk, gJ_mk, cI_some, cV_some, cJ_some, cI_x, cV_x, cJ_x, uS_self, uS_ne, if_pos, if_neg, b01, b01n, ite_not, if_true, if_false, a2, m_within, m_may0, rI_d, z_bok0]
theorem m_isCarter0 {nT nR nC : Int} {rd : Int → Int} (hL : LdP S nT nR nC rd) (h0 : S 132 0 = 0) {t : Int} (hr : -2147483648 ≤ t ∧ t < 2147483648) (ht : ¬ (0 ≤ t ∧ t < nC)) : am_call X aP (d + 2) 218 [.ref 132, .int (zI t)] (mkS w (hI S) J) = some (.inl (some (.int (zI 0))), (mkS w (hI (badS S 1 0)) J)) := by
  obtain ⟨a1, a2, a3, a4, a5, a6, a7, a8, a9, a10, a11⟩ := hL
  rw [go_X10_isCarter, e_X10_isCarter_0]
  simp (disch := omega) only [hk, hu, hI_n, hI_un, z_nat, em_d, zl, z_add, z_sub, z_mul, z_lt, z_eq, gI_mk, gJ_mk, cI_some, cV_some, cJ_some, cI_x, cV_x, cJ_x, uS_self, uS_ne, if_pos, if_neg, b01, b01n, ite_not, if_true, if_false, a3, m_within, m_may0, rI_d, z_bok0]
/-- the first n of a row into another -/
def cpS (S : Hp) (o1 o2 : Nat) (n : Int) : Hp := fun o a => if o = o2 ∧ 0 ≤ a ∧ a < n then S o1 a else S o a
theorem m_copies {o1 o2 : Nat} {n : Int} (h1 : KK o1 = 10) (h2 : KK o2 = 10) (h3 : o1 < 1000000) (h4 : o2 < 1000000) (hn : 0 ≤ n) (hn1 : n ≤ (LL o1 : Int)) (hn2 : n ≤ (LL o2 : Int)) (hn3 : n < 3000) (hne : o1 ≠ o2) : am_call X aP (d + 1) 171 [.ref 132, .ref o1, .ref o2, .int (zI n)] (mkS w (hI S) J) = some (.inl none, (mkS w (hI (cpS S o1 o2 n)) J)) := by
  rw [go_X10_copies, e_X10_copies_0, z_0]
  have := loopA (fun n' k T => aR X d m_X10_copies n' 2 [none, some (.ref o1), some (.ref o2), some (.int (zI n)), some (.int (zI k))] (0, 0) (mkS w (hI T) J)) (fun k T => uS T o2 k (T o1 k)) (fun k T => T = cpS S o1 o2 k) n 1 (fun T => some (.inl none, (mkS w (hI T) J))) (fun n' k T q1 q2 q3 => by
    show aR X d m_X10_copies (n' + 1) 2 [none, some (.ref o1), some (.ref o2), some (.int (zI n)), some (.int (zI k))] (0, 0) (mkS w (hI T) J) = aR X d m_X10_copies n' 2 [none, some (.ref o1), some (.ref o2), some (.int (zI n)), some (.int (zI ((k + 1))))] (0, 0) (mkS w (hI (uS T o2 k (T o1 k))) J)
    rw [e_X10_copies_2]
    simp (disch := omega) only [hk, hu, hI_n, hI_un, z_nat, em_d, zl, z_add, z_sub, z_mul, z_lt, z_eq, gI_mk, gJ_mk, cI_some, cV_some, cJ_some, cI_x, cV_x, cJ_x, uS_self, uS_ne, if_pos, if_neg, b01, b01n, ite_not, if_true, if_false, h1, h2, h4, true_and, and_true]) (fun k T q1 q2 q3 => by
    rw [q3]
    funext o a
    unfold cpS
    rw [uS_at]
    by_cases e1 : o = o2 ∧ a = k
    · rw [if_pos e1, if_neg (fun z => hne z.1), if_pos ⟨e1.1, by omega⟩, e1.2]
    · rw [if_neg e1]
      by_cases e2 : o = o2 ∧ 0 ≤ a ∧ a < k
      · rw [if_pos e2, if_pos ⟨e2.1, by omega⟩]
      · rw [if_neg e2, if_neg (fun z => e2 ⟨z.1, z.2.1, by have := z.1; omega⟩)]) (fun n' T q1 q2 => by
    obtain ⟨n', rfl⟩ : ∃ m, n' = m + 1 := ⟨n' - 1, by omega⟩
    show aR X d m_X10_copies (n' + 1) 2 [none, some (.ref o1), some (.ref o2), some (.int (zI n)), some (.int (zI n))] (0, 0) (mkS w (hI T) J) = _
    rw [e_X10_copies_2]
    simp (disch := omega) only [hk, hu, hI_n, hI_un, z_nat, em_d, zl, z_add, z_sub, z_mul, z_lt, z_eq, gI_mk, gJ_mk, cI_some, cV_some, cJ_some, cI_x, cV_x, cJ_x, uS_self, uS_ne, if_pos, if_neg, b01, b01n, ite_not, if_true, if_false, rV_d]) n.toNat 0 S (by omega) (by omega) (by
    funext o a
    unfold cpS
    rw [if_neg (by omega)]) 9999999 (by omega)
  have hV := fold_V (fun k T => uS T o2 k (T o1 k)) (fun k T => T = cpS S o1 o2 k) n (fun k T q1 q2 q3 => by
    rw [q3]
    funext o a
    unfold cpS
    rw [uS_at]
    by_cases e1 : o = o2 ∧ a = k
    · rw [if_pos e1, if_neg (fun z => hne z.1), if_pos ⟨e1.1, by omega⟩, e1.2]
    · rw [if_neg e1]
      by_cases e2 : o = o2 ∧ 0 ≤ a ∧ a < k
      · rw [if_pos e2, if_pos ⟨e2.1, by omega⟩]
      · rw [if_neg e2, if_neg (fun z => e2 ⟨z.1, z.2.1, by have := z.1; omega⟩)]) n.toNat 0 S (by omega) (by omega) (by
    funext o a
    unfold cpS
    rw [if_neg (by omega)])
  have hV : fold (fun k T => uS T o2 k (T o1 k)) n.toNat 0 S = cpS S o1 o2 n := hV
  rw [hV] at this
  exact this
theorem m_take : am_call X aP (d + 2) 197 [.ref 132] (mkS w (hI S) J) = some (.inl none, (mkS w (hI (cpS S 147 148 51)) J)) := by
  rw [go_X10_take, e_X10_take_0]
  simp only [zl]
  rw [m_copies (by decide) (by decide) (by decide) (by decide) (by decide) (by decide) (by decide) (by decide) (by decide)]
  simp only [hk, hu, hI_n, hI_un, z_nat, em_d, zl, z_add, z_sub, z_mul, z_lt, z_eq, gI_mk, gJ_mk, cI_some, cV_some, cJ_some, cI_x, cV_x, cJ_x, uS_self, uS_ne, if_pos, if_neg, b01, b01n, ite_not, if_true, if_false, rV_d]
theorem m_dayOf {h : Int} (h1 : 0 ≤ h ∧ h < 1000000) : am_call X aP (d + 1) 198 [.int (zI h)] (mkS w (hI S) J) = some (.inl (some (.int (zI (dayOf h)))), (mkS w (hI S) J)) := by
  rw [go_X10_dayOf, e_X10_dayOf_0]
  have : 0 ≤ h / 8 ∧ h / 8 < 1000000 := by omega
  simp (disch := omega) only [hk, hu, hI_n, hI_un, z_nat, em_d, zl, z_add, z_sub, z_mul, z_lt, z_eq, gI_mk, gJ_mk, cI_some, cV_some, cJ_some, cI_x, cV_x, cJ_x, uS_self, uS_ne, if_pos, if_neg, b01, b01n, ite_not, if_true, if_false, z_div, z_rem, rI_d]
theorem m_rests {nR nC : Int} (hR : nR ≤ 12) {s : Int → Int} (hs : ScP nR nC S s) {r h : Int} (hr : 0 ≤ r ∧ r < nR) (hv : 0 ≤ s r ∧ s r < 7) (h1 : 0 ≤ h ∧ h < 1000000) : am_call X aP (d + 2) 199 [.ref 132, .int (zI r), .int (zI h)] (mkS w (hI S) J) = some (.inl (some (.int (zI (if s r = dayOf h then 1 else 0)))), (mkS w (hI S) J)) := by
  rw [go_X10_rests, e_X10_rests_0]
  have e := hs (0 + r) (by unfold Vd; omega)
  rw [Int.zero_add] at e
  simp (disch := omega) only [hk, hu, hI_n, hI_un, z_nat, em_d, zl, z_add, z_sub, z_mul, z_lt, z_eq, gI_mk, gJ_mk, cI_some, cV_some, cJ_some, cI_x, cV_x, cJ_x, uS_self, uS_ne, if_pos, if_neg, b01, b01n, ite_not, if_true, if_false, m_dayOf, Int.zero_add, e]
  have v9 : 0 ≤ dayOf h ∧ dayOf h < 7 := by
    show 0 ≤ h / 8 % 7 ∧ h / 8 % 7 < 7
    omega
  by_cases q : s r = dayOf h
  · simp (disch := omega) only [z_eq, if_pos q, rI_d]
  · simp (disch := omega) only [z_eq, if_neg q, rI_d]
theorem m_cartersOn {nT nR nC : Int} {rd : Int → Int} (hL : LdP S nT nR nC rd) {s : Int → Int} (hs : ScP nR nC S s) (hv : OnR nC s) {r : Int} (hr : 0 ≤ r ∧ r < 12) : am_call X aP (d + 1) 200 [.ref 132, .int (zI r)] (mkS w (hI S) J) = some (.inl (some (.int (zI ((onB nC s r : Nat))))), (mkS w (hI S) J)) := by
  obtain ⟨a1, a2, a3, a4, a5, a6, a7, a8, a9, a10, a11⟩ := hL
  rw [go_X10_cartersOn, e_X10_cartersOn_0, z_0]
  refine loop_bits (fun n k m => aR X d m_X10_cartersOn n 4 [some (.ref 132), some (.int (zI r)), some (.int (zI m)), some (.int (zI k))] (0, 0) (mkS w (hI S) J)) (fun c => decide (s (34 + c) = r)) nC 1 (fun m => some (.inl (some (.int (zI m))), (mkS w (hI S) J))) (by omega) (fun n k m q1 q2 q3 => ?_) (fun n m q1 => ?_) 9999999 (by omega)
  · show aR X d m_X10_cartersOn (n + 1) 4 [some (.ref 132), some (.int (zI r)), some (.int (zI ((m : Int)))), some (.int (zI k))] (0, 0) (mkS w (hI S) J) = aR X d m_X10_cartersOn n 4 [some (.ref 132), some (.int (zI r)), some (.int (zI (((m ||| (if decide (s (34 + k) = r) = true then 2 ^ k.toNat else 0) : Nat) : Int)))), some (.int (zI ((k + 1))))] (0, 0) (mkS w (hI S) J)
    rw [e_X10_cartersOn_4]
    have e := hs (34 + k) (by unfold Vd; omega)
    obtain ⟨v1, v2⟩ := hv k (by omega) (by omega)
    by_cases q : s (34 + k) = r
    · simp (disch := omega) only [hk, hu, hI_n, hI_un, z_nat, em_d, zl, z_add, z_sub, z_mul, z_lt, z_eq, gI_mk, gJ_mk, cI_some, cV_some, cJ_some, cI_x, cV_x, cJ_x, uS_self, uS_ne, if_pos, if_neg, b01, b01n, ite_not, if_true, if_false, a3, e, q, z_shl1, z_or, z_or0, decide_true, decide_false, Bool.false_eq_true, Nat.or_zero, not_true_eq_false, not_false_eq_true, eq_self]
    · simp (disch := omega) only [hk, hu, hI_n, hI_un, z_nat, em_d, zl, z_add, z_sub, z_mul, z_lt, z_eq, gI_mk, gJ_mk, cI_some, cV_some, cJ_some, cI_x, cV_x, cJ_x, uS_self, uS_ne, if_pos, if_neg, b01, b01n, ite_not, if_true, if_false, a3, e, q, z_shl1, z_or, z_or0, decide_true, decide_false, Bool.false_eq_true, Nat.or_zero, not_true_eq_false, not_false_eq_true, eq_self]
  · obtain ⟨n, rfl⟩ : ∃ n', n = n' + 1 := ⟨n - 1, by omega⟩
    show aR X d m_X10_cartersOn (n + 1) 4 [some (.ref 132), some (.int (zI r)), some (.int (zI m)), some (.int (zI nC))] (0, 0) (mkS w (hI S) J) = _
    rw [e_X10_cartersOn_4]
    simp (disch := omega) only [hk, hu, hI_n, hI_un, z_nat, em_d, zl, z_add, z_sub, z_mul, z_lt, z_eq, gI_mk, gJ_mk, cI_some, cV_some, cJ_some, cI_x, cV_x, cJ_x, uS_self, uS_ne, if_pos, if_neg, b01, b01n, ite_not, if_true, if_false, a3, rI_d]
end MSC
