/-! THE MODEL'S TAPE: bytes -/
/-- the byte at p, 0 behind the end -/
def bt0 (B : Nat → Int) (e p : Nat) : Int := if p < e then B p else 0
section MTAPE
variable {X : Nat × (Nat → Int32)} {d : Nat} {w : Bool × Bool × Bool} {J : Nat → Nat → Int64}
theorem m_isDigit {c : Int} (hc : 0 ≤ c ∧ c < 256) (I : Nat → Nat → Int32) : am_call X aP (d + 1) 161 [.int (zI c)] (mkS w I J) = some (.inl (some (.int (zI (if isD c then 1 else 0)))), mkS w I J) := by
  rw [go_X10_isDigit, e_X10_isDigit_0]
  simp (disch := omega) only [zl, z_lt]
  unfold isD
  by_cases h1 : c < 48
  · rw [if_pos h1, if_neg (by simp; omega)]
    rfl
  · rw [if_neg h1]
    by_cases h2 : 57 < c
    · rw [if_pos h2, if_neg (by simp; omega)]
      rfl
    · rw [if_neg h2, if_pos (by simp; omega)]
      rfl
theorem m_isSmall {c : Int} (hc : 0 ≤ c ∧ c < 256) (I : Nat → Nat → Int32) : am_call X aP (d + 1) 160 [.int (zI c)] (mkS w I J) = some (.inl (some (.int (zI (if isL c then 1 else 0)))), mkS w I J) := by
  rw [go_X10_isSmall, e_X10_isSmall_0]
  simp (disch := omega) only [zl, z_lt]
  unfold isL
  by_cases h1 : c < 97
  · rw [if_pos h1, if_neg (by simp; omega)]
    rfl
  · rw [if_neg h1]
    by_cases h2 : 122 < c
    · rw [if_pos h2, if_neg (by simp; omega)]
      rfl
    · rw [if_neg h2, if_pos (by simp; omega)]
      rfl
end MTAPE
