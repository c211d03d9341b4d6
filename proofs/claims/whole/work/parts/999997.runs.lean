/-! A WORK RUNS: both, as calls -/
section RNS
variable {X : Nat × (Nat → Int32)} {d : Nat} {w : Bool × Bool × Bool} {S : Hp} {J : Nat → Nat → Int64} {nT nR nC : Int} {rd s : Int → Int} {cd : List (Int × Int)} {bl bs bw : Bool} {n : Nat} {L : List Tk}
theorem c_run (hL : CL S (iL bl) nT nR nC rd) (hs : CS nR nC S (iS bs) s) (hv : InvS rd nR nC s) (hc : CW S (iW bw) cd) (hR : nR ≤ 12) (hC : 0 ≤ nC ∧ nC ≤ 5) (hrd : Rd nR rd) (hcode : CSt S L 0) (h4 : S 3 4 = (L.length : Int)) (hlen : L.length ≤ 150) (hok : OkN nC nR n 6 L) : ∃ S', am_call X aP (d + 7) 74 [.ref 3, .ref ((iL bl)), .ref ((iW bw)), .ref ((iS bs))] (mkS w (hI S) J) = some (.inl none, (mkS w (hI S') J)) ∧ RC bl bs bw nT nR nC rd cd L.length S' (goF cd rd nR nC n L (s, 0, 0, 0)) ∧ Fr (3 :: 7 :: dsL bw bs) S S' := by
  have hF : Fr [3, 7] S (uS (uS (uS S 3 6 0) 3 7 0) 3 5 0) := Fr_tr (Fr_u S (L := [3]) _ _ (by decide)) (Fr_tr (Fr_u _ (L := [3]) _ _ (by decide)) (Fr_u _ (L := [3]) _ _ (by decide)) (fun o z => z) (fun o z => z)) (by decide) (by decide)
  have m37 : ∀ o, o ∈ [3, 7] → o ∈ 3 :: 7 :: dsL bw bs := fun o ho => by
    simp only [List.mem_cons, List.not_mem_nil, or_false] at ho ⊢
    omega
  have hRC : RC bl bs bw nT nR nC rd cd L.length (uS (uS (uS S 3 6 0) 3 7 0) 3 5 0) (s, 0, 0, 0) := ⟨CL_fr hL (Fr_mono hF m37) (rcL bl bs bw), CW_fr hc (Fr_mono hF m37) (rcW bs bw), CS_fr hs hF (rcS bs), hv, by rw [uS_ne _ _ (Or.inr (by decide)), uS_ne _ _ (Or.inr (by decide)), uS_self]; rfl, by rw [uS_ne _ _ (Or.inr (by decide)), uS_self]; rfl, by rw [uS_ne _ _ (Or.inr (by decide)), uS_ne _ _ (Or.inr (by decide)), uS_ne _ _ (Or.inr (by decide))]; exact h4⟩
  obtain ⟨S', ⟨g1, g2, g3, g4, g5, g6⟩, g7⟩ := c_goes (X := X) (d := d) (w := w) (J := J) (cd := cd) (bl := bl) (bs := bs) (bw := bw) (nT := nT) hlen hR hC hrd n 6 L hok 0 0 100000 (uS (uS (uS S 3 6 0) 3 7 0) 3 5 0) (s, 0, 0, 0) (CSt_fr hcode (Fr_mono hF m37)) (by omega) (by decide) hRC (uS_self _ _ _ _) (Nat.zero_le _) (Nat.zero_le _) (show 8 * (200 - 0) + 8 ≤ 100000 by decide) (Nat.le_refl _)
  refine ⟨S', ?_, g1, Fr_tr hF g2 m37 (fun o z => z)⟩
  rw [go_X6_run, e_X6_run_0]
  simp (disch := omega) only [hk, hu, hI_n, hI_un, z_nat, em_d, zl, z_add, z_sub, z_mul, z_lt, z_eq, gI_mk, gJ_mk, cI_some, cV_some, cJ_some, cI_x, cV_x, cJ_x, uS_self, uS_ne, if_pos, if_neg, b01, b01n, ite_not, if_true, if_false, Bool.false_eq_true, hLL]
  have e6 : uI (hI S) 3 6 (zI 0) = hI (uS S 3 6 0) := hI_un S 3 (a := 6) _ (by decide)
  have e7 : uI (hI (uS S 3 6 0)) 3 7 (zI 0) = hI (uS (uS S 3 6 0) 3 7 0) := hI_un _ 3 (a := 7) _ (by decide)
  have e5 : uI (hI (uS (uS S 3 6 0) 3 7 0)) 3 5 (zI 0) = hI (uS (uS (uS S 3 6 0) 3 7 0) 3 5 0) := hI_un _ 3 (a := 5) _ (by decide)
  try rw [e6]
  try rw [e7]
  try rw [e5]
  rcases g7 with ⟨u1, p1, p2, p3, p4, p5⟩ | ⟨p1, p2⟩
  · have h9 := p5 9899998
    rw [Nat.zero_add] at h9
    have := c_mvDone (X := X) (d := d) (w := w) (J := J) (g := 9899998 + u1) (u := u1) g1 ⟨by omega, by omega⟩ hlen g5
    exact h9.trans this
  · exact p2 9899998
theorem m_run (hL : LdP S nT nR nC rd) (hs : ScP nR nC S s) (hv : InvS rd nR nC s) (hc : CdP S cd) (hcode : MSt S 146 L 0) (hlen : L.length ≤ 150) (hml : 3 * mL L ≤ 150) (hok : OkN nC nR n 6 L) (h33 : S 132 33 = 0) (h34 : S 132 34 = 0) (h35 : S 132 35 = 0) : ∃ S', am_call X aP (d + 14) 196 [.ref 132, .int (zI 0), .int (zI ((3 * mL L : Nat)))] (mkS w (hI S) J) = some (.inl none, (mkS w (hI S') J)) ∧ RM nT nR nC rd cd S' (goF cd rd nR nC n L (s, 0, 0, 0)) ∧ FG S S' := by
  obtain ⟨S', g1, g2, g3, -⟩ := m_goes (X := X) (d := d) (w := w) (J := J) (cd := cd) (nT := nT) n 6 L hok 0 (3 * mL L) S (s, 0, 0, 0) hcode (by omega) hml hlen ⟨hL, hc, hs, hv, h33, h34, h35⟩ (Nat.zero_le _) (Nat.zero_le _)
  refine ⟨S', ?_, g2, g3⟩
  rw [show d + 14 = (d + 6 + 7) + 1 from rfl, go_X10_goesSteps, e_X10_goesSteps_0]
  exact g1 9999999 (by omega)
/-- the reference keeps the scene before a work -/
theorem m_pastLoop {W : Int} (hW : 0 ≤ W ∧ W < 16) (h31 : S 132 31 = W) : ∀ (k c f : Nat), c + k = 51 → aR X d m_X10_work (f + k + 1) 67 [some (.ref 132), none, none, some (.int (zI ((c : Int))))] (0, 0) (mkS w (hI (cpy S 147 149 0 (51 * W) (c : Int))) J) = aR X d m_X10_work (f + 1) 67 [some (.ref 132), none, none, some (.int (zI 51))] (0, 0) (mkS w (hI (cpy S 147 149 0 (51 * W) 51)) J) := by
  intro k
  induction k with
  | zero =>
    intro c f hc
    rw [show c = 51 by omega]
    rfl
  | succ k ih =>
    intro c f hc
    have e31 : cpy S 147 149 0 (51 * W) (c : Int) 132 31 = W := by
      unfold cpy
      rw [if_neg (fun z => absurd z.1 (by decide))]
      exact h31
    have e47 : cpy S 147 149 0 (51 * W) (c : Int) 147 (c : Int) = S 147 (c : Int) := by
      unfold cpy
      rw [if_neg (fun z => absurd z.1 (by decide))]
    rw [show f + (k + 1) + 1 = (f + k + 1) + 1 by omega, e_X10_work_67]
    simp (disch := omega) only [hk, hu, hI_n, hI_un, z_nat, em_d, zl, z_add, z_sub, z_mul, z_lt, z_eq, gI_mk, gJ_mk, cI_some, cV_some, cJ_some, cI_x, cV_x, cJ_x, uS_self, uS_ne, if_pos, if_neg, b01, b01n, ite_not, if_true, if_false, Bool.false_eq_true, e31, e47]
    have := ih (c + 1) f (by omega)
    rw [show ((c + 1 : Nat) : Int) = (c : Int) + 1 by omega, ← show uS (cpy S 147 149 0 (51 * W) (c : Int)) 149 (51 * W + c) (S 147 (0 + (c : Int))) = cpy S 147 149 0 (51 * W) ((c : Int) + 1) from by
      have := cpy_snoc S (s := 147) (d := 149) (by decide) 0 (51 * W) c
      rw [show ((c + 1 : Nat) : Int) = (c : Int) + 1 by omega] at this
      exact this] at this
    rw [Int.zero_add] at this
    exact this
end RNS
