/-! THE CLASS: its land, its law's value, its scene -/
theorem hNot : (True ∧ True) = True := and_self True
/-- the land of the class at l -/
def CL (S : Hp) (l : Nat) (nT nR nC : Int) (rd : Int → Int) : Prop := S l 6 = nT ∧ S l 7 = nR ∧ S l 8 = nC ∧ (∀ r, 0 ≤ r → r < nR → S (l + 1) r = rd (4 * r) ∧ S (l + 2) r = rd (4 * r + 1) ∧ S (l + 3) r = rd (4 * r + 2)) ∧ 0 ≤ nT ∧ nT ≤ 7 ∧ 0 ≤ nR ∧ nR ≤ 12 ∧ 0 ≤ nC ∧ nC ≤ 5 ∧ Rd nR rd
theorem CL_of {S S' : Hp} {l : Nat} {nT nR nC : Int} {rd : Int → Int} (h : CL S l nT nR nC rd) (h0 : S' l = S l) (h1 : S' (l + 1) = S (l + 1)) (h2 : S' (l + 2) = S (l + 2)) (h3 : S' (l + 3) = S (l + 3)) : CL S' l nT nR nC rd := by
  obtain ⟨a1, a2, a3, a4, a5⟩ := h
  refine ⟨by rw [h0]; exact a1, by rw [h0]; exact a2, by rw [h0]; exact a3, fun r r1 r2 => ?_, a5⟩
  rw [h1, h2, h3]
  exact a4 r r1 r2
/-- a scene of the class at o -/
def CS (nR nC : Int) (S : Hp) (o : Nat) (s : Int → Int) : Prop := (∀ r, 0 ≤ r → r < nR → S (o + 1) r = s r ∧ S (o + 2) r = s (12 + r)) ∧ (∀ c, 0 ≤ c → c < nC → S (o + 3) c = s (24 + c) ∧ S (o + 4) c = s (29 + c) ∧ S (o + 5) c = s (34 + c) ∧ S (o + 6) c = s (39 + c) ∧ S (o + 7) c = s (44 + c)) ∧ S o 8 = s 50 ∧ S o 9 = s 49
theorem CS_of {nR nC : Int} {S S' : Hp} {o : Nat} {s : Int → Int} (h : CS nR nC S o s) (h0 : S' o 8 = S o 8 ∧ S' o 9 = S o 9) (h1 : ∀ i, 1 ≤ i → i ≤ 7 → S' (o + i) = S (o + i)) : CS nR nC S' o s := by
  obtain ⟨a1, a2, a3, a4⟩ := h
  refine ⟨fun r r1 r2 => ?_, fun c c1 c2 => ?_, h0.1.trans a3, h0.2.trans a4⟩
  · rw [h1 1 (by omega) (by omega), h1 2 (by omega) (by omega)]
    exact a1 r r1 r2
  · rw [h1 3 (by omega) (by omega), h1 4 (by omega) (by omega), h1 5 (by omega) (by omega), h1 6 (by omega) (by omega), h1 7 (by omega) (by omega)]
    exact a2 c c1 c2
/-- the law's codes as the class has them -/
def kc (k : Int) : Int := if k = 6 then 7 else if k = 7 then 8 else if k = 8 then 6 else k
def cdC (cd : List (Int × Int)) : List (Int × Int) := if cd = [] then [(0, 2)] else cd.map (fun e => (kc e.1, e.2))
def CW (S : Hp) (l : Nat) (cd : List (Int × Int)) : Prop := S l 4 = ((cdC cd).length : Int) ∧ cd.length ≤ 150 ∧ (cd = [] ∨ okc cd 0) ∧ CPs S (l + 1) (l + 2) 0 (cdC cd)
theorem CW_of {S S' : Hp} {l : Nat} {cd : List (Int × Int)} (h : CW S l cd) (h0 : S' l 4 = S l 4) (h1 : S' (l + 1) = S (l + 1)) (h2 : S' (l + 2) = S (l + 2)) : CW S' l cd := ⟨h0.trans h.1, h.2.1, h.2.2.1, CPs_of h1 h2 _ 0 h.2.2.2⟩
theorem min32 (a b : Int32) : (if b < a then b else a) = (if a < b then a else b) := by
  by_cases h1 : a < b
  · by_cases h2 : b < a
    · rw [Int32.lt_iff_toInt_lt] at h1 h2
      omega
    · rw [if_neg h2, if_pos h1]
  · by_cases h2 : b < a
    · rw [if_pos h2, if_neg h1]
    · rw [if_neg h2, if_neg h1]
      apply Int32.toInt_inj.mp
      rw [Int32.lt_iff_toInt_lt] at h1 h2
      omega
section CSC
variable {X : Nat × (Nat → Int32)} {d : Nat} {w : Bool × Bool × Bool} {S : Hp} {J : Nat → Nat → Int64} {nT nR nC : Int} {rd s : Int → Int} {cd : List (Int × Int)} {bl bs bw : Bool}
theorem c_touches (hL : CL S (iL bl) nT nR nC rd) {r t : Int} (hr : 0 ≤ r ∧ r < nR) (ht : -100 ≤ t ∧ t < 100) : am_call X aP (d + 1) 23 [.ref (iL bl), .int (zI r), .int (zI t)] (mkS w (hI S) J) = some (.inl (some (.int (zI (if goesF rd r t then 1 else 0)))), (mkS w (hI S) J)) := by
  obtain ⟨a1, a2, a3, a4, a5, a6, a7, a8, a9, a10, a11⟩ := hL
  obtain ⟨e1, e2, e3⟩ := a4 r hr.1 hr.2
  obtain ⟨b1, b2, b3, b4, b5, b6⟩ := a11 r hr.1 hr.2
  rw [go_X2_touches, e_X2_touches_0]
  simp (disch := omega) only [hk, hu, hI_n, hI_un, z_nat, em_d, zl, z_add, z_sub, z_mul, z_lt, z_eq, gI_mk, gJ_mk, cI_some, cV_some, cJ_some, cI_x, cV_x, cJ_x, uS_self, uS_ne, if_pos, if_neg, b01, b01n, ite_not, if_true, if_false, hLL, e1, e2, rI_d]
  by_cases q1 : rd (4 * r) = t
  · rw [if_pos q1, if_pos (show goesF rd r t from Or.inl q1)]
  · rw [if_neg q1]
    by_cases q2 : rd (4 * r + 1) = t
    · rw [if_pos q2, if_pos (show goesF rd r t from Or.inr q2)]
    · rw [if_neg q2, if_neg (show ¬ goesF rd r t from fun z => by rcases z with z | z; exact q1 z; exact q2 z)]
theorem c_across (hL : CL S (iL bl) nT nR nC rd) {r t : Int} (hr : 0 ≤ r ∧ r < nR) (ht : -100 ≤ t ∧ t < 100) : am_call X aP (d + 1) 24 [.ref (iL bl), .int (zI r), .int (zI t)] (mkS w (hI S) J) = some (.inl (some (.int (zI (othF rd r t)))), (mkS w (hI S) J)) := by
  obtain ⟨a1, a2, a3, a4, a5, a6, a7, a8, a9, a10, a11⟩ := hL
  obtain ⟨e1, e2, e3⟩ := a4 r hr.1 hr.2
  obtain ⟨b1, b2, b3, b4, b5, b6⟩ := a11 r hr.1 hr.2
  rw [go_X2_acrossFrom, e_X2_acrossFrom_0]
  unfold othF
  simp (disch := omega) only [hk, hu, hI_n, hI_un, z_nat, em_d, zl, z_add, z_sub, z_mul, z_lt, z_eq, gI_mk, gJ_mk, cI_some, cV_some, cJ_some, cI_x, cV_x, cJ_x, uS_self, uS_ne, if_pos, if_neg, b01, b01n, ite_not, if_true, if_false, hLL, e1, e2, rI_d]
  by_cases q1 : rd (4 * r) = t
  · rw [if_pos q1, if_pos q1]
  · rw [if_neg q1, if_neg q1]
theorem c_outOf {k : Int} (hk1 : 2 ≤ k ∧ k ≤ 8) (a b : Int32) : am_call X aP (d + 1) 38 [.int (zI (kc k)), .int a, .int b] (mkS w (hI S) J) = some (.inl (some (.int (op2 k a b))), mkS w (hI S) J) := by
  rw [go_X3_outOf, e_X3_outOf_0]
  have : k = 2 ∨ k = 3 ∨ k = 4 ∨ k = 5 ∨ k = 6 ∨ k = 7 ∨ k = 8 := by omega
  have hm := min32 a b
  rcases this with rfl | rfl | rfl | rfl | rfl | rfl | rfl
  · rfl
  · rfl
  · rfl
  · show (if b = 0 then rI 0 _ else if b = 0 then none else rI (a / b) _) = some (.inl (some (.int (if b = 0 then 0 else a / b))), _)
    by_cases hb : b = 0
    · rw [if_pos hb, if_pos hb]; rfl
    · rw [if_neg hb, if_neg hb, if_neg hb]; rfl
  · show (if b < a then rI b _ else rI a _) = some (.inl (some (.int (if a < b then a else b))), _)
    rw [← hm]
    by_cases hb : b < a
    · rw [if_pos hb, if_pos hb]; rfl
    · rw [if_neg hb, if_neg hb]; rfl
  · show (if a < b then rI b _ else rI a _) = some (.inl (some (.int (if a < b then b else a))), _)
    by_cases hb : a < b
    · rw [if_pos hb, if_pos hb]; rfl
    · rw [if_neg hb, if_neg hb]; rfl
  · show (if b = 0 then rI 0 _ else if b = 0 then none else rI (a - a / b * b) _) = some (.inl (some (.int (if b = 0 then 0 else a - a / b * b))), _)
    by_cases hb : b = 0
    · rw [if_pos hb, if_pos hb]; rfl
    · rw [if_neg hb, if_neg hb, if_neg hb]; rfl
end CSC
