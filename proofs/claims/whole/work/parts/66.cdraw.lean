/-! THE CLASS: what is drawn ahead of an hour -/
theorem CS_u {nR nC : Int} {S : Hp} {o o' : Nat} {s : Int → Int} (h : CS nR nC S o s) (a v : Int) (ho : o' = o ∧ a ≠ 8 ∧ a ≠ 9) : CS nR nC (uS S o' a v) o s := CS_of h ⟨uS_ne _ _ (Or.inr (fun z => ho.2.1 z.symm)), uS_ne _ _ (Or.inr (fun z => ho.2.2 z.symm))⟩ (fun i h1 _ => uS_row _ _ _ (by omega))
theorem CL_u {S : Hp} {l : Nat} {nT nR nC : Int} {rd : Int → Int} (h : CL S l nT nR nC rd) {o : Nat} (a v : Int) (ho : o < l ∨ l + 3 < o) : CL (uS S o a v) l nT nR nC rd := CL_of h (uS_row _ _ _ (by omega)) (uS_row _ _ _ (by omega)) (uS_row _ _ _ (by omega)) (uS_row _ _ _ (by omega))
section CDR
variable {X : Nat × (Nat → Int32)} {d : Nat} {w : Bool × Bool × Bool} {S : Hp} {J : Nat → Nat → Int64} {nT nR nC : Int} {rd s : Int → Int} {cd : List (Int × Int)} {bl bs bw : Bool}
theorem l_drawR (hL : CL S (iL bl) nT nR nC rd) (hs : CS nR nC S (iS bs) s) (hR0 : 0 < nR) (hoff : ∀ r, 0 ≤ r → r < nR → 0 ≤ s r ∧ s r < 7) {q : Int} (hq : 0 ≤ q ∧ q ≤ 16) (n : Nat) : ∃ S', aR X (d + 2) m_X5_drawHour (n + 1) 23 [some (.ref ((iS bs))), some (.ref ((iL bl))), some (.int (zI q)), none, none] (0, 0) (mkS w (hI S) J) = some (.inl none, (mkS w (hI S') J)) ∧ CS nR nC S' (iS bs) (drawR nR q (s, S (iS bs) 10)).1 ∧ S' (iS bs) 10 = (drawR nR q (s, S (iS bs) 10)).2 ∧ Fr [iS bs, iS bs + 1] S S' := by
  have hl := iL_c bl
  have hsb := iS_c bs
  have t7 := hL.2.1
  have hR := hL.2.2.2.2.2.2.2.1
  have r1 := drw_r (nxS (S (iS bs) 10))
  unfold drawR
  by_cases p : drw (nxS (S (iS bs) 10)) % 16 < q
  · have hs1 : CS nR nC (uS (uS (uS S (iS bs) 10 (nxS (S (iS bs) 10))) (iS bs) 10 (nxS (nxS (S (iS bs) 10)))) (iS bs) 10 (nxS (nxS (nxS (S (iS bs) 10))))) (iS bs) s := CS_u (CS_u (CS_u hs _ _ ⟨rfl, by decide, by decide⟩) _ _ ⟨rfl, by decide, by decide⟩) _ _ ⟨rfl, by decide, by decide⟩
    have r2 := drw_r (nxS (nxS (S (iS bs) 10)))
    have r3 := drw_r (nxS (nxS (nxS (S (iS bs) 10))))
    have hr : 0 ≤ drw (nxS (nxS (S (iS bs) 10))) % nR ∧ drw (nxS (nxS (S (iS bs) 10))) % nR < nR := ⟨Int.emod_nonneg _ (by omega), Int.emod_lt_of_pos _ hR0⟩
    obtain ⟨S', h1, h2, h3⟩ := c_offAnew (X := X) (d := d + 1) (w := w) (J := J) (bs := bs) hs1 hR hr (hoff _ hr.1 hr.2) (v := drw (nxS (nxS (nxS (S (iS bs) 10)))) % 7) (by omega)
    refine ⟨S', ?_, ?_, ?_, ?_⟩
    · have g1 : ∀ T : Hp, uS T (iS bs) 10 (nxS (S (iS bs) 10)) (iL bl) 7 = T (iL bl) 7 := fun T => uS_ne _ _ (Or.inl (by omega))
      rw [e_X5_drawHour_23]
      simp (disch := omega) only [hk, hu, hI_n, hI_un, z_nat, em_d, zl, z_add, z_sub, z_mul, z_lt, z_eq, gI_mk, gJ_mk, cI_some, cV_some, cJ_some, cI_x, cV_x, cJ_x, uS_self, uS_ne, if_pos, if_neg, b01, b01n, ite_not, if_true, if_false, hLL, c_draw, p, g1, t7]
      rw [h1]
      simp (disch := omega) only [hk, hu, hI_n, hI_un, z_nat, em_d, zl, z_add, z_sub, z_mul, z_lt, z_eq, gI_mk, gJ_mk, cI_some, cV_some, cJ_some, cI_x, cV_x, cJ_x, uS_self, uS_ne, if_pos, if_neg, b01, b01n, ite_not, if_true, if_false, hLL, rV_d]
    · rw [if_pos p]
      refine CS_congr h2 (fun j _ => ?_)
      by_cases e : s (drw (nxS (nxS (S (iS bs) 10))) % nR) = drw (nxS (nxS (nxS (S (iS bs) 10)))) % 7
      · simp only [if_neg (fun z : ¬ s (drw (nxS (nxS (S (iS bs) 10))) % nR) = drw (nxS (nxS (nxS (S (iS bs) 10)))) % 7 => z e), if_pos e]
      · simp only [if_pos e, if_neg e]
    · rw [if_pos p, h3 (iS bs) (by simp), uS_self]
    · refine Fr_tr (L1 := [iS bs]) (fun o ho => ?_) h3 (by simp) (by simp)
      have h4 : o ≠ iS bs := fun z => ho (z ▸ List.mem_singleton.mpr rfl)
      rw [uS_row _ _ _ h4, uS_row _ _ _ h4, uS_row _ _ _ h4]
  · refine ⟨uS S (iS bs) 10 (nxS (S (iS bs) 10)), ?_, ?_, ?_, Fr_u _ _ _ (by simp)⟩
    · rw [e_X5_drawHour_23]
      simp (disch := omega) only [hk, hu, hI_n, hI_un, z_nat, em_d, zl, z_add, z_sub, z_mul, z_lt, z_eq, gI_mk, gJ_mk, cI_some, cV_some, cJ_some, cI_x, cV_x, cJ_x, uS_self, uS_ne, if_pos, if_neg, b01, b01n, ite_not, if_true, if_false, hLL, c_draw, p, rV_d]
    · rw [if_neg p]
      exact CS_u hs _ _ ⟨rfl, by decide, by decide⟩
    · rw [if_neg p, uS_self]
theorem c_drawHour (hL : CL S (iL bl) nT nR nC rd) (hs : CS nR nC S (iS bs) s) (hon : OnR nC s) (hoff : ∀ r, 0 ≤ r → r < nR → 0 ≤ s r ∧ s r < 7) (hto : ∀ c, 0 ≤ c → c < nC → 0 ≤ s (24 + c) ∧ s (24 + c) < 7) {q : Int} (hq : 0 ≤ q ∧ q ≤ 16) : ∃ S', am_call X aP (d + 3) 65 [.ref (iS bs), .ref ((iL bl)), .int (zI q)] (mkS w (hI S) J) = some (.inl none, (mkS w (hI S') J)) ∧ CS nR nC S' (iS bs) (drawF rd nR nC q (s, S (iS bs) 10)).1 ∧ S' (iS bs) 10 = (drawF rd nR nC q (s, S (iS bs) 10)).2 ∧ Fr [iS bs, iS bs + 1, iS bs + 3, iS bs + 4, iS bs + 5, iS bs + 6] S S' := by
  have hl := iL_c bl
  have hsb := iS_c bs
  have t7 := hL.2.1
  have t8 := hL.2.2.1
  obtain ⟨-, -, -, -, -, -, a7, a8, a9, a10, -⟩ := id hL
  rw [go_X5_drawHour, e_X5_drawHour_0]
  unfold drawF
  by_cases p0 : nR = 0
  · refine ⟨S, ?_, by rw [if_pos p0]; exact hs, by rw [if_pos p0], Fr_rf _ _⟩
    simp (disch := omega) only [hk, hu, hI_n, hI_un, z_nat, em_d, zl, z_add, z_sub, z_mul, z_lt, z_eq, gI_mk, gJ_mk, cI_some, cV_some, cJ_some, cI_x, cV_x, cJ_x, uS_self, uS_ne, if_pos, if_neg, b01, b01n, ite_not, if_true, if_false, hLL, t7, rV_d]
  · rw [if_neg p0]
    unfold drawC
    by_cases p1 : 0 < nC
    · simp only [if_pos p1]
      have hs1 : CS nR nC (uS (uS S (iS bs) 10 (nxS (S (iS bs) 10))) (iS bs) 10 (nxS (nxS (S (iS bs) 10)))) (iS bs) s := CS_u (CS_u hs _ _ ⟨rfl, by decide, by decide⟩) _ _ ⟨rfl, by decide, by decide⟩
      have hL1 : CL (uS (uS S (iS bs) 10 (nxS (S (iS bs) 10))) (iS bs) 10 (nxS (nxS (S (iS bs) 10)))) (iL bl) nT nR nC rd := CL_u (CL_u hL _ _ (by omega)) _ _ (by omega)
      have hr : 0 ≤ drw (nxS (nxS (S (iS bs) 10))) % nR ∧ drw (nxS (nxS (S (iS bs) 10))) % nR < nR := ⟨Int.emod_nonneg _ (by omega), Int.emod_lt_of_pos _ (by omega)⟩
      have hc : 0 ≤ drw (nxS (S (iS bs) 10)) % nC ∧ drw (nxS (S (iS bs) 10)) % nC < nC := ⟨Int.emod_nonneg _ (by omega), Int.emod_lt_of_pos _ (by omega)⟩
      obtain ⟨S1, h1, h2, h3⟩ := c_setOut (X := X) (d := d) (w := w) (J := J) hL1 hs1 hon hc (hto _ hc.1 hc.2) hr
      have hL2 : CL S1 (iL bl) nT nR nC rd := CL_fr hL1 h3 (fun i hi => by simp; omega)
      have hoff2 : ∀ r, 0 ≤ r → r < nR → 0 ≤ (if canSet rd s (drw (nxS (S (iS bs) 10)) % nC) (drw (nxS (nxS (S (iS bs) 10))) % nR) then setF rd s (drw (nxS (S (iS bs) 10)) % nC) (drw (nxS (nxS (S (iS bs) 10))) % nR) else s) r ∧ (if canSet rd s (drw (nxS (S (iS bs) 10)) % nC) (drw (nxS (nxS (S (iS bs) 10))) % nR) then setF rd s (drw (nxS (S (iS bs) 10)) % nC) (drw (nxS (nxS (S (iS bs) 10))) % nR) else s) r < 7 := fun r r1 r2 => by
        split
        · unfold setF
          rw [if_neg (by omega), if_neg (by omega), if_neg (by omega), if_neg (by omega)]
          exact hoff r r1 r2
        · exact hoff r r1 r2
      have e10 : S1 (iS bs) 10 = nxS (nxS (S (iS bs) 10)) := by rw [h3 (iS bs) (by simp), uS_self]
      obtain ⟨S', h4, h5, h6, h7⟩ := l_drawR (X := X) (d := d) (w := w) (J := J) hL2 h2 (by omega) hoff2 hq 9999998
      rw [e10] at h5 h6
      refine ⟨S', ?_, h5, h6, ?_⟩
      · have g1 : ∀ T : Hp, uS T (iS bs) 10 (nxS (S (iS bs) 10)) (iL bl) 7 = T (iL bl) 7 := fun T => uS_ne _ _ (Or.inl (by omega))
        simp (disch := omega) only [hk, hu, hI_n, hI_un, z_nat, em_d, zl, z_add, z_sub, z_mul, z_lt, z_eq, gI_mk, gJ_mk, cI_some, cV_some, cJ_some, cI_x, cV_x, cJ_x, uS_self, uS_ne, if_pos, if_neg, b01, b01n, ite_not, if_true, if_false, hLL, t7, t8, c_draw, g1]
        rw [h1]
        simp (disch := omega) only [hk, hu, hI_n, hI_un, z_nat, em_d, zl, z_add, z_sub, z_mul, z_lt, z_eq, gI_mk, gJ_mk, cI_some, cV_some, cJ_some, cI_x, cV_x, cJ_x, uS_self, uS_ne, if_pos, if_neg, b01, b01n, ite_not, if_true, if_false, hLL]
        exact h4
      · refine Fr_tr (L1 := [iS bs]) (fun o ho => ?_) (Fr_tr h3 h7 (L := [iS bs, iS bs + 1, iS bs + 3, iS bs + 4, iS bs + 5, iS bs + 6]) (by simp) (by simp)) (by simp) (fun _ z => z)
        have h4 : o ≠ iS bs := fun z => ho (z ▸ List.mem_singleton.mpr rfl)
        rw [uS_row _ _ _ h4, uS_row _ _ _ h4]
    · simp only [if_neg p1]
      obtain ⟨S', h4, h5, h6, h7⟩ := l_drawR (X := X) (d := d) (w := w) (J := J) hL hs (by omega) hoff hq 9999998
      refine ⟨S', ?_, h5, h6, Fr_mono h7 (by simp)⟩
      simp (disch := omega) only [hk, hu, hI_n, hI_un, z_nat, em_d, zl, z_add, z_sub, z_mul, z_lt, z_eq, gI_mk, gJ_mk, cI_some, cV_some, cJ_some, cI_x, cV_x, cJ_x, uS_self, uS_ne, if_pos, if_neg, b01, b01n, ite_not, if_true, if_false, hLL, t7, t8]
      exact h4
end CDR
