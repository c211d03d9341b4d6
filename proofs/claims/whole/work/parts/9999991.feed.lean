/-! FEED -/
/-- a byte of a number -/
def fdB (a : Int32) (n : Nat) : Int := ((a >>> (nI n &&& 31)) &&& nI 255).toInt
theorem fdB_l (a : Int32) (n : Nat) : (a >>> (zI (n : Int) &&& 31)) &&& zI 255 = zI (fdB a n) := by
  rw [zn, show zI 255 = nI 255 from zn 255]
  exact z_of _
theorem fdB_u (a : Int32) {n : Nat} (hn : n ≤ 24) : (a.toUInt32 >>> ((zI (n : Int)).toUInt32 &&& Int32.toUInt32 31)).toInt32 &&& zI 255 = zI (fdB a n) := by
  rw [← fdB_l, zn, show zI 255 = nI 255 from zn 255]
  apply b_ext
  intro i hi
  rw [b_and, b_and, b_8 i hi, b_ushr n (by omega), b_sshr n (by omega) _ hi]
  by_cases h : i < 8
  · rw [if_pos (by omega)]
  · simp [h]
theorem fdB_r (a : Int32) (n : Nat) : 0 ≤ fdB a n ∧ fdB a n < 256 := by
  obtain ⟨m, h1, h2⟩ := z_mask (a >>> (nI n &&& 31)) 8
  have h3 : fdB a n = (nI m).toInt := by
    unfold fdB
    rw [show nI 255 = nI (2 ^ 8 - 1) from rfl, h2]
  rw [h3, ← zn, z_toInt (by omega) (by omega)]
  omega
def wS (S : Hp) (z v : Int) : Hp := uS (uS S 2 z v) 1 1 (z + 1)
section FED
variable {X : Nat × (Nat → Int32)} {d : Nat} {w : Bool × Bool × Bool} {S : Hp} {J : Nat → Nat → Int64} {B : Nat → Int} {z : Int} {a : Int32}
theorem c_put1 (h1 : S 1 1 = z) (hz : 0 ≤ z ∧ z < 600) {sh : Nat} (hs : sh ≤ 24) {f : Nat} : aR X d m_X7_put (f + 1) 2 [some (.ref 1), some (.int a), some (.int (zI sh))] (0, 0) (mkS w (hI S) J) = aR X d m_X7_put f 2 [some (.ref 1), some (.int a), some (.int (zI ((sh - 8))))] (0, 0) (mkS w (hI (wS S z (fdB a sh))) J) := by
  have e11 : ∀ v, uS S 2 z v 1 1 = z := fun v => (uS_ne _ _ (Or.inl (by decide))).trans h1
  have hfu := fdB_u a hs
  rw [e_X7_put_2]
  refine (if_neg ?_).trans ?_
  · simp (disch := omega) only [zl, z_lt]
    omega
  have v11 : hI S 1 1 = zI z := (hI_n S 1 (a := 1) (by decide)).trans (by rw [h1])
  have w11 : ∀ v, hI (uS S 2 z v) 1 1 = zI z := fun v => (hI_n _ 1 (a := 1) (by decide)).trans (by rw [e11])
  have u2 : ∀ v, uI (hI S) 2 z.toNat (zI v) = hI (uS S 2 z v) := fun v => hI_un S 2 v hz.1
  have u1 : ∀ v, uI (hI (uS S 2 z v)) 1 1 (zI (z + 1)) = hI (wS S z v) := fun v => hI_un _ 1 (a := 1) _ (by decide)
  simp (disch := omega) only [zl, v11, hfu, z_nat, u2, w11, u1, z_add, z_sub, z_lt, if_pos, if_neg]
end FED
