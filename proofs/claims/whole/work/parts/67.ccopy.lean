/-! THE CLASS: scenes into rows and back -/
def cpy (S : Hp) (s d : Nat) (sp dp n : Int) : Hp := fun o a => if o = d ∧ dp ≤ a ∧ a < dp + n then S s (sp + (a - dp)) else S o a
theorem cpy_in (S : Hp) {s d : Nat} {sp dp n a : Int} (h : dp ≤ a ∧ a < dp + n) : cpy S s d sp dp n d a = S s (sp + (a - dp)) := by
  unfold cpy
  rw [if_pos ⟨rfl, h⟩]
theorem cpy_out (S : Hp) {s d o : Nat} {sp dp n a : Int} (h : o ≠ d ∨ a < dp ∨ dp + n ≤ a) : cpy S s d sp dp n o a = S o a := by
  unfold cpy
  rw [if_neg (fun z => by have := z.1; have := z.2; omega)]
theorem cpy_row (S : Hp) {s d o : Nat} {sp dp n : Int} (h : o ≠ d) : cpy S s d sp dp n o = S o := by
  funext a
  exact cpy_out S (Or.inl h)
theorem cpy_fr (S : Hp) (s d : Nat) (sp dp n : Int) : Fr [d] S (cpy S s d sp dp n) := fun o ho => cpy_row S (fun z => ho (z ▸ List.mem_singleton.mpr rfl))
theorem hI_cpy (S : Hp) (s d : Nat) {sp dp n : Int} (h1 : 0 ≤ sp) (h2 : 0 ≤ dp) (h3 : 0 ≤ n) : va_up (hI S) d (va_cpy (hI S s) (hI S d) sp.toNat dp.toNat n.toNat) = hI (cpy S s d sp dp n) := by
  funext o k
  unfold va_up va_cpy
  rw [hI_at]
  unfold cpy
  by_cases e : o = d
  · rw [if_pos e]
    subst e
    by_cases e2 : dp.toNat ≤ k ∧ k < dp.toNat + n.toNat
    · rw [if_pos e2, if_pos ⟨rfl, by omega⟩, hI_at]
      congr 2
      omega
    · rw [if_neg e2, if_neg (fun z => e2 (by have := z.2; omega)), hI_at]
  · rw [if_neg e, if_neg (fun z => e z.1), hI_at]
/-- a scene as a row -/
def RowP (nR nC : Int) (S : Hp) (o : Nat) (s : Int → Int) : Prop := (∀ r, 0 ≤ r → r < nR → S o (2 + r) = s r ∧ S o (14 + r) = s (12 + r)) ∧ (∀ c, 0 ≤ c → c < nC → S o (26 + c) = s (24 + c) ∧ S o (31 + c) = s (29 + c) ∧ S o (36 + c) = s (34 + c) ∧ S o (41 + c) = s (39 + c) ∧ S o (46 + c) = s (44 + c)) ∧ S o 0 = s 50 ∧ S o 1 = s 49
theorem RowP_of {nR nC : Int} {S S' : Hp} {o o' : Nat} {s : Int → Int} (h : RowP nR nC S o s) (hR : nR ≤ 12) (hC : nC ≤ 5) (e : ∀ a, 0 ≤ a → a < 51 → S' o' a = S o a) : RowP nR nC S' o' s := by
  obtain ⟨h1, h2, h3, h4⟩ := h
  refine ⟨fun r r1 r2 => ?_, fun c c1 c2 => ?_, (e 0 (by omega) (by omega)).trans h3, (e 1 (by omega) (by omega)).trans h4⟩
  · rw [e (2 + r) (by omega) (by omega), e (14 + r) (by omega) (by omega)]
    exact h1 r r1 r2
  · rw [e (26 + c) (by omega) (by omega), e (31 + c) (by omega) (by omega), e (36 + c) (by omega) (by omega), e (41 + c) (by omega) (by omega), e (46 + c) (by omega) (by omega)]
    exact h2 c c1 c2
section CCO
variable {X : Nat × (Nat → Int32)} {d : Nat} {w : Bool × Bool × Bool} {S : Hp} {J : Nat → Nat → Int64} {nT nR nC : Int} {rd s : Int → Int} {bl bs bs2 : Bool}
/-- all that the copies of a scene into a row come to -/
def savS (S : Hp) (b o : Nat) : Hp := cpy (cpy (cpy (cpy (cpy (cpy (cpy (uS (uS S o 0 (S b 8)) o 1 (S b 9)) (b + 1) o 0 2 12) (b + 2) o 0 14 12) (b + 3) o 0 26 5) (b + 4) o 0 31 5) (b + 5) o 0 36 5) (b + 6) o 0 41 5) (b + 7) o 0 46 5
def takS (S : Hp) (b o : Nat) : Hp := cpy (cpy (cpy (cpy (cpy (cpy (cpy (uS (uS S b 8 (S o 0)) b 9 (S o 1)) o (b + 1) 2 0 12) o (b + 2) 14 0 12) o (b + 3) 26 0 5) o (b + 4) 31 0 5) o (b + 5) 36 0 5) o (b + 6) 41 0 5) o (b + 7) 46 0 5
theorem l_savS {o : Nat} (h1 : KK o = 10) (h2 : o < 1000000) (h3 : LL o = 51) (h4 : o < iS bs ∨ iS bs + 7 < o) : am_call X aP (d + 1) 48 [.ref ((iS bs)), .ref o] (mkS w (hI S) J) = some (.inl none, (mkS w (hI (savS S (iS bs) o)) J)) := by
  have hsb := iS_c bs
  rw [go_X5_saveIn, e_X5_saveIn_0]
  simp (disch := omega) only [hk, hu, hI_n, hI_un, z_nat, em_d, zl, z_add, z_sub, z_mul, z_lt, z_eq, gI_mk, gJ_mk, cI_some, cV_some, cJ_some, cI_x, cV_x, cJ_x, uS_self, uS_ne, if_pos, if_neg, b01, b01n, ite_not, if_true, if_false, hLL, h1, h3, and_true, true_and, eq_self, hI_cpy]
  rw [show 9999999 = 9999998 + 1 from rfl, e_X5_saveIn_19]
  simp (disch := omega) only [hk, hu, hI_n, hI_un, z_nat, em_d, zl, z_add, z_sub, z_mul, z_lt, z_eq, gI_mk, gJ_mk, cI_some, cV_some, cJ_some, cI_x, cV_x, cJ_x, uS_self, uS_ne, if_pos, if_neg, b01, b01n, ite_not, if_true, if_false, hLL, h1, h3, and_true, true_and, eq_self, hI_cpy]
  rw [show 9999998 = 9999997 + 1 from rfl, e_X5_saveIn_27]
  simp (disch := omega) only [hk, hu, hI_n, hI_un, z_nat, em_d, zl, z_add, z_sub, z_mul, z_lt, z_eq, gI_mk, gJ_mk, cI_some, cV_some, cJ_some, cI_x, cV_x, cJ_x, uS_self, uS_ne, if_pos, if_neg, b01, b01n, ite_not, if_true, if_false, hLL, h1, h3, and_true, true_and, eq_self, hI_cpy]
  rw [show 9999997 = 9999996 + 1 from rfl, e_X5_saveIn_35]
  simp (disch := omega) only [hk, hu, hI_n, hI_un, z_nat, em_d, zl, z_add, z_sub, z_mul, z_lt, z_eq, gI_mk, gJ_mk, cI_some, cV_some, cJ_some, cI_x, cV_x, cJ_x, uS_self, uS_ne, if_pos, if_neg, b01, b01n, ite_not, if_true, if_false, hLL, h1, h3, and_true, true_and, eq_self, hI_cpy]
  rw [show 9999996 = 9999995 + 1 from rfl, e_X5_saveIn_43]
  simp (disch := omega) only [hk, hu, hI_n, hI_un, z_nat, em_d, zl, z_add, z_sub, z_mul, z_lt, z_eq, gI_mk, gJ_mk, cI_some, cV_some, cJ_some, cI_x, cV_x, cJ_x, uS_self, uS_ne, if_pos, if_neg, b01, b01n, ite_not, if_true, if_false, hLL, h1, h3, and_true, true_and, eq_self, hI_cpy]
  rw [show 9999995 = 9999994 + 1 from rfl, e_X5_saveIn_51]
  simp (disch := omega) only [hk, hu, hI_n, hI_un, z_nat, em_d, zl, z_add, z_sub, z_mul, z_lt, z_eq, gI_mk, gJ_mk, cI_some, cV_some, cJ_some, cI_x, cV_x, cJ_x, uS_self, uS_ne, if_pos, if_neg, b01, b01n, ite_not, if_true, if_false, hLL, h1, h3, and_true, true_and, eq_self, hI_cpy]
  rw [show 9999994 = 9999993 + 1 from rfl, e_X5_saveIn_59]
  simp (disch := omega) only [hk, hu, hI_n, hI_un, z_nat, em_d, zl, z_add, z_sub, z_mul, z_lt, z_eq, gI_mk, gJ_mk, cI_some, cV_some, cJ_some, cI_x, cV_x, cJ_x, uS_self, uS_ne, if_pos, if_neg, b01, b01n, ite_not, if_true, if_false, hLL, h1, h3, and_true, true_and, eq_self, hI_cpy, rV_d]
  rfl
theorem l_takS {o : Nat} (h1 : KK o = 10) (h2 : o < 1000000) (h3 : LL o = 51) (h4 : o < iS bs ∨ iS bs + 7 < o) : am_call X aP (d + 1) 49 [.ref ((iS bs)), .ref o] (mkS w (hI S) J) = some (.inl none, (mkS w (hI (takS S (iS bs) o)) J)) := by
  have hsb := iS_c bs
  rw [go_X5_takeFrom, e_X5_takeFrom_0]
  simp (disch := omega) only [hk, hu, hI_n, hI_un, z_nat, em_d, zl, z_add, z_sub, z_mul, z_lt, z_eq, gI_mk, gJ_mk, cI_some, cV_some, cJ_some, cI_x, cV_x, cJ_x, uS_self, uS_ne, if_pos, if_neg, b01, b01n, ite_not, if_true, if_false, hLL, h1, h3, and_true, true_and, eq_self, hI_cpy]
  rw [show 9999999 = 9999998 + 1 from rfl, e_X5_takeFrom_19]
  simp (disch := omega) only [hk, hu, hI_n, hI_un, z_nat, em_d, zl, z_add, z_sub, z_mul, z_lt, z_eq, gI_mk, gJ_mk, cI_some, cV_some, cJ_some, cI_x, cV_x, cJ_x, uS_self, uS_ne, if_pos, if_neg, b01, b01n, ite_not, if_true, if_false, hLL, h1, h3, and_true, true_and, eq_self, hI_cpy]
  rw [show 9999998 = 9999997 + 1 from rfl, e_X5_takeFrom_27]
  simp (disch := omega) only [hk, hu, hI_n, hI_un, z_nat, em_d, zl, z_add, z_sub, z_mul, z_lt, z_eq, gI_mk, gJ_mk, cI_some, cV_some, cJ_some, cI_x, cV_x, cJ_x, uS_self, uS_ne, if_pos, if_neg, b01, b01n, ite_not, if_true, if_false, hLL, h1, h3, and_true, true_and, eq_self, hI_cpy]
  rw [show 9999997 = 9999996 + 1 from rfl, e_X5_takeFrom_35]
  simp (disch := omega) only [hk, hu, hI_n, hI_un, z_nat, em_d, zl, z_add, z_sub, z_mul, z_lt, z_eq, gI_mk, gJ_mk, cI_some, cV_some, cJ_some, cI_x, cV_x, cJ_x, uS_self, uS_ne, if_pos, if_neg, b01, b01n, ite_not, if_true, if_false, hLL, h1, h3, and_true, true_and, eq_self, hI_cpy]
  rw [show 9999996 = 9999995 + 1 from rfl, e_X5_takeFrom_43]
  simp (disch := omega) only [hk, hu, hI_n, hI_un, z_nat, em_d, zl, z_add, z_sub, z_mul, z_lt, z_eq, gI_mk, gJ_mk, cI_some, cV_some, cJ_some, cI_x, cV_x, cJ_x, uS_self, uS_ne, if_pos, if_neg, b01, b01n, ite_not, if_true, if_false, hLL, h1, h3, and_true, true_and, eq_self, hI_cpy]
  rw [show 9999995 = 9999994 + 1 from rfl, e_X5_takeFrom_51]
  simp (disch := omega) only [hk, hu, hI_n, hI_un, z_nat, em_d, zl, z_add, z_sub, z_mul, z_lt, z_eq, gI_mk, gJ_mk, cI_some, cV_some, cJ_some, cI_x, cV_x, cJ_x, uS_self, uS_ne, if_pos, if_neg, b01, b01n, ite_not, if_true, if_false, hLL, h1, h3, and_true, true_and, eq_self, hI_cpy]
  rw [show 9999994 = 9999993 + 1 from rfl, e_X5_takeFrom_59]
  simp (disch := omega) only [hk, hu, hI_n, hI_un, z_nat, em_d, zl, z_add, z_sub, z_mul, z_lt, z_eq, gI_mk, gJ_mk, cI_some, cV_some, cJ_some, cI_x, cV_x, cJ_x, uS_self, uS_ne, if_pos, if_neg, b01, b01n, ite_not, if_true, if_false, hLL, h1, h3, and_true, true_and, eq_self, hI_cpy, rV_d]
  rfl
theorem savS_fr (S : Hp) (b o : Nat) : Fr [o] S (savS S b o) := fun o' ho => by
  have h4 : o' ≠ o := fun z => ho (z ▸ List.mem_singleton.mpr rfl)
  unfold savS
  simp only [cpy_row _ h4, uS_row _ _ _ h4]
theorem savS_row (hR : nR ≤ 12) (hC : nC ≤ 5) {b o : Nat} (h4 : o < b ∨ b + 7 < o) (hs : CS nR nC S b s) : RowP nR nC (savS S b o) o s := by
  unfold savS
  refine ⟨fun r r1 r2 => ?_, fun c c1 c2 => ?_, ?_, ?_⟩
  · obtain ⟨g1, g2⟩ := hs.1 r r1 r2
    have e1 : 0 + (2 + r - 2) = r := by omega
    have e2 : 0 + (14 + r - 14) = r := by omega
    simp (disch := omega) only [cpy_in, cpy_out, uS_ne, e1, e2, g1, g2, and_self]
  · obtain ⟨g1, g2, g3, g4, g5⟩ := hs.2.1 c c1 c2
    have e1 : 0 + (26 + c - 26) = c := by omega
    have e2 : 0 + (31 + c - 31) = c := by omega
    have e3 : 0 + (36 + c - 36) = c := by omega
    have e4 : 0 + (41 + c - 41) = c := by omega
    have e5 : 0 + (46 + c - 46) = c := by omega
    simp (disch := omega) only [cpy_in, cpy_out, uS_ne, e1, e2, e3, e4, e5, g1, g2, g3, g4, g5, and_self]
  · simp (disch := omega) only [cpy_out, uS_ne, uS_self]
    exact hs.2.2.1
  · simp (disch := omega) only [cpy_out, uS_ne, uS_self]
    exact hs.2.2.2
theorem takS_fr (S : Hp) (b o : Nat) : Fr [b, b + 1, b + 2, b + 3, b + 4, b + 5, b + 6, b + 7] S (takS S b o) := fun o' ho => by
  simp only [List.mem_cons, List.not_mem_nil, or_false, not_or] at ho
  unfold takS
  rw [cpy_row _ (by omega), cpy_row _ (by omega), cpy_row _ (by omega), cpy_row _ (by omega), cpy_row _ (by omega), cpy_row _ (by omega), cpy_row _ (by omega), uS_row _ _ _ (by omega), uS_row _ _ _ (by omega)]
theorem takS_f (S : Hp) (b o : Nat) {k : Int} (h8 : k ≠ 8) (h9 : k ≠ 9) : takS S b o b k = S b k := by
  unfold takS
  simp (disch := omega) only [cpy_out, uS_ne]
theorem takS_sc (hR : nR ≤ 12) (hC : nC ≤ 5) {b o : Nat} (h4 : o < b ∨ b + 7 < o) (hs : RowP nR nC S o s) : CS nR nC (takS S b o) b s := by
  unfold takS
  refine ⟨fun r r1 r2 => ?_, fun c c1 c2 => ?_, ?_, ?_⟩
  · obtain ⟨g1, g2⟩ := hs.1 r r1 r2
    have e1 : 2 + (r - 0) = 2 + r := by omega
    have e2 : 14 + (r - 0) = 14 + r := by omega
    simp (disch := omega) only [cpy_in, cpy_out, uS_ne, e1, e2, g1, g2, and_self]
  · obtain ⟨g1, g2, g3, g4, g5⟩ := hs.2.1 c c1 c2
    have e1 : 26 + (c - 0) = 26 + c := by omega
    have e2 : 31 + (c - 0) = 31 + c := by omega
    have e3 : 36 + (c - 0) = 36 + c := by omega
    have e4 : 41 + (c - 0) = 41 + c := by omega
    have e5 : 46 + (c - 0) = 46 + c := by omega
    simp (disch := omega) only [cpy_in, cpy_out, uS_ne, e1, e2, e3, e4, e5, g1, g2, g3, g4, g5, and_self]
  · simp (disch := omega) only [cpy_out, uS_ne, uS_self]
    exact hs.2.2.1
  · simp (disch := omega) only [cpy_out, uS_ne, uS_self]
    exact hs.2.2.2
/-- the trial becomes what is now -/
theorem c_become (hs : CS nR nC S 8 s) (hR : nR ≤ 12) (hC : nC ≤ 5) : ∃ S', am_call X aP (d + 2) 50 [.ref 17, .ref 8] (mkS w (hI S) J) = some (.inl none, (mkS w (hI S') J)) ∧ CS nR nC S' 17 s ∧ Fr [17, 18, 19, 20, 21, 22, 23, 24, 25] S S' ∧ ∀ k, k ≠ 8 → k ≠ 9 → S' 17 k = S 17 k := by
  refine ⟨takS (savS S 8 25) 17 25, ?_, takS_sc hR hC (Or.inr (by decide)) (savS_row hR hC (Or.inr (by decide)) hs), Fr_tr (savS_fr S 8 25) (takS_fr _ 17 25) (by decide) (by decide), fun k h8 h9 => ?_⟩
  · have h1 := fun d => l_savS (X := X) (d := d) (w := w) (S := S) (J := J) (bs := false) (o := 25) rfl (by decide) rfl (Or.inr (by decide))
    have h2 := fun d => l_takS (X := X) (d := d) (w := w) (S := savS S 8 25) (J := J) (bs := true) (o := 25) rfl (by decide) rfl (Or.inr (by decide))
    have e1 : iS false = 8 := rfl
    have e2 : iS true = 17 := rfl
    have h0 := go_X5_become X (d + 1) true false (mkS w (hI S) J)
    have h3 := e_X5_become_0 X (d + 1) 9999999 w (hI S) J true false
    rw [e1] at h1
    rw [e2] at h2
    rw [e1, e2] at h0 h3
    rw [h0, h3, h1]
    simp only [hk, hu, hI_n, hI_un, z_nat, em_d, zl, z_add, z_sub, z_mul, z_lt, z_eq, gI_mk, gJ_mk, cI_some, cV_some, cJ_some, cI_x, cV_x, cJ_x, uS_self, uS_ne, if_pos, if_neg, b01, b01n, ite_not, if_true, if_false, hLL]
    rw [h2]
    simp only [hk, hu, hI_n, hI_un, z_nat, em_d, zl, z_add, z_sub, z_mul, z_lt, z_eq, gI_mk, gJ_mk, cI_some, cV_some, cJ_some, cI_x, cV_x, cJ_x, uS_self, uS_ne, if_pos, if_neg, b01, b01n, ite_not, if_true, if_false, hLL, rV_d]
  · rw [takS_f _ _ _ h8 h9, savS_fr S 8 25 17 (by decide)]
end CCO
