/-! THE WORK'S TEXT: every step, at every depth -/
section WK7
variable {X : Nat × (Nat → Int32)} {d : Nat} {w : Bool × Bool × Bool} {S : Hp} {J : Nat → Nat → Int64} {B : Nat → Int} {e p q i j r : Nat} {nc nr : Int} {bl : Bool} {G : Nat → WOut} {out : WOut}
theorem stp_agn0 (hqe : q ≤ e) (kw : wd B e q = sx 15) : PG X B e bl nc nr 0 q := by
  refine ⟨.inl (3, (q : Int)), trivial, fun w J S i hT h4 hi h7 h8 => ?_, fun w J S p j hM hs h7 h30 hj h18 h19 => ?_⟩
  · obtain ⟨S1, g1, g2, g4, g3⟩ := T_word1 (X := X) w J hT (k := 15) (by decide) kw
    obtain ⟨S2, f1, f2, f3⟩ := T_failTok (X := X) w J g2 3 g4
    refine ⟨S2, fun d => ?_, f2, FC_tr (FC_t g3) (FC_t f3) (Nat.le_refl _)⟩
    have nw : ∀ k, sx 15 ≠ sx k → ¬ wd B e q = sx k := fun k z1 z2 => z1 (kw.symm.trans z2)
    rw [show d + (3 * 0 + 5) = (d + (3 * 0 + 4)) + 1 from rfl, go_X6_readStep, e_X6_readStep_0]
    refine cI_go (r := zI 0) (st := mkS w (hI S) J) (T_word0 (d := d + (3 * 0 + 2)) hT (k := 12) (by decide) (nw 12 (by decide))) ?_
    refine (if_pos (by decide)).trans ?_
    refine cI_go (r := zI 0) (st := mkS w (hI S) J) (T_word0 (d := d + (3 * 0 + 2)) hT (k := 13) (by decide) (nw 13 (by decide))) ?_
    refine (if_pos (by decide)).trans ?_
    refine cI_go (r := zI 0) (st := mkS w (hI S) J) (T_word0 (d := d + (3 * 0 + 2)) hT (k := 7) (by decide) (nw 7 (by decide))) ?_
    refine (if_pos (by decide)).trans ?_
    refine cI_go (r := zI 0) (st := mkS w (hI S) J) (T_word0 (d := d + (3 * 0 + 2)) hT (k := 14) (by decide) (nw 14 (by decide))) ?_
    refine (if_pos (by decide)).trans ?_
    refine cI_go (r := zI 0) (st := mkS w (hI S) J) (T_word0 (d := d + (3 * 0 + 2)) hT (k := 9) (by decide) (nw 9 (by decide))) ?_
    refine (if_pos (by decide)).trans ?_
    refine cI_go (r := zI 1) (st := mkS w (hI S1) J) (g1 (d + (3 * 0 + 2))) ?_
    refine (if_neg (by decide)).trans ?_
    refine cI_go (r := zI 0) (st := mkS w (hI S2) J) ?_ ?_
    · simp only [gI_mk, gJ_mk, zl]
      rw [show d + (3 * 0 + 4) = (d + 3) + 1 from rfl, go_X6_readAgain, e_X6_readAgain_0]
      refine (if_neg (by decide)).trans ?_
      refine cI_go (r := zI 0) (st := mkS w (hI S2) J) ?_ ?_
      · simp only [gI_mk, gJ_mk, zl]
        exact f1 (d + 2)
      simp (disch := omega) only [hk, hu, hI_n, hI_un, z_nat, em_d, zl, z_add, z_sub, z_mul, z_lt, z_eq, gI_mk, gJ_mk, cI_some, cV_some, cJ_some, cI_x, cV_x, cJ_x, uS_self, uS_ne, if_pos, if_neg, b01, b01n, ite_not, if_true, if_false, Bool.false_eq_true, hLL, z_bok0, rI_d]
    simp (disch := omega) only [hk, hu, hI_n, hI_un, z_nat, em_d, zl, z_add, z_sub, z_mul, z_lt, z_eq, gI_mk, gJ_mk, cI_some, cV_some, cJ_some, cI_x, cV_x, cJ_x, uS_self, uS_ne, if_pos, if_neg, b01, b01n, ite_not, if_true, if_false, Bool.false_eq_true, hLL, z_bok0, rI_d]
    rfl
  · obtain ⟨S1, g1, g2, g3⟩ := M_word (X := X) w J hM hs
    obtain ⟨S2, f1, f2, f3⟩ := m_agn0 (X := X) (j := j) g2 ((g3.2 7 (by decide)).trans h7) w J
    have kv : kStp B e q = 5 := by
      unfold kStp
      rw [kw]
      decide
    refine ⟨S2, fun d n => ?_, f2, FR_tr (FR_m g3) f3 (Nat.le_refl _)⟩
    rw [e_X10_readStep_0]
    refine cI_go (r := zI (wV B e q : Nat)) (st := mkS w (hI S1) J) (g1 (d + (2 * 0 + 4))) ?_
    refine cI_go (r := zI (5)) (st := mkS w (hI S1) J) ?_ ?_
    · rw [show (zI (5)) = zI (kStp B e q) by rw [kv]]
      exact m_stepOf (d := d + (2 * 0 + 3))
    refine (if_neg (by decide)).trans ?_
    refine (if_pos (by decide)).trans ?_
    refine cV_go (st := mkS w (hI S2) J) (f1 d) ?_
    rfl
theorem stp_agnS (he : e ≤ 150) (hG : Gok X B e bl nc nr r G) (hr : r < 6) (hqe : q ≤ e) (kw : wd B e q = sx 15) : PG X B e bl nc nr (r + 1) q := by
  have hwl := wd_len B e q hqe
  have hlen : (wd B e q).length = 5 := by
    rw [kw]
    decide
  have s1 := sk_ge (B := B) (e := e) (p := q + (wd B e q).length)
  have s1' := sk_le (B := B) (e := e) hwl
  refine ⟨oAgn B e G (sk B e (q + (wd B e q).length)), ?_, fun w J S i hT h4 hi h7 h8 => ?_, fun w J S p j hM hs h7 h30 hj h18 h19 => ?_⟩
  · generalize sk B e (q + (wd B e q).length) = p at s1 s1'
    unfold oAgn
    by_cases n1 : numK B e p 0 60 = 0
    · rw [if_pos n1]
      obtain ⟨d1, d2, d3⟩ := numK_0 n1
      have gp := dg_pos d1
      have s2 := sk_ge (B := B) (e := e) (p := numE B e p)
      by_cases k1 : sk B e (numE B e p) < e ∧ B (sk B e (numE B e p)) = 91
      · rw [if_pos k1]
        have s3 := sk_ge (B := B) (e := e) (p := sk B e (numE B e p) + 1)
        obtain ⟨u1, -⟩ := sqW_wf hG e (sk B e (sk B e (numE B e p) + 1)) (by omega) (sk_le (by omega)) sk_sk
        cases e2 : sqW B e G e (sk B e (sk B e (numE B e p) + 1)) with
        | inl g => trivial
        | inr z =>
          rw [e2] at u1
          obtain ⟨⟨u2, u3, u4, u5, u6⟩, u7⟩ := u1
          by_cases k3 : z.2 < e ∧ B z.2 = 93
          · rw [show clA B e (.inr z) = .inr z from if_pos k3]
            have s4 := sk_ge (B := B) (e := e) (p := z.2 + 1)
            refine ⟨⟨?_, ?_, ?_, sk_sk, sk_le (by omega)⟩, OkS_agn ⟨d2, d3⟩ u7⟩
            · show q ≤ sk B e (z.2 + 1)
              omega
            · show (agn (numV B e p) z.1).length + q ≤ sk B e (z.2 + 1)
              rw [agn_len]
              omega
            · show 3 * mL (agn (numV B e p) z.1) + q ≤ sk B e (z.2 + 1)
              rw [agn_mL]
              omega
          · rw [show clA B e (.inr z) = .inl (1, (z.2 : Int)) from if_neg k3]
            trivial
      · rw [if_neg k1]
        trivial
    · rw [if_neg n1]
      trivial
  · obtain ⟨S1, g1, g2, -, g3⟩ := T_word1 (X := X) w J hT (k := 15) (by decide) kw
    have a4 : S1 3 4 = (i : Int) := by
      rw [g3.1 3 (by decide)]
      exact h4
    have a7 : S1 (iL bl) 7 = nr := by
      rw [FT_iL g3]
      exact h7
    have a8 : S1 (iL bl) 8 = nc := by
      rw [FT_iL g3]
      exact h8
    have nw : ∀ k, sx 15 ≠ sx k → ¬ wd B e q = sx k := fun k z1 z2 => z1 (kw.symm.trans z2)
    obtain ⟨S2, f1, f2, f3⟩ := c_agn he hG hr w J g2 a4 (by omega) a7 a8
    refine ⟨S2, fun d => ?_, f2, FC_tr (FC_t g3) f3 (Nat.le_refl _)⟩
    rw [show d + (3 * (r + 1) + 5) = (d + (3 * (r + 1) + 4)) + 1 from rfl, go_X6_readStep, e_X6_readStep_0]
    refine cI_go (r := zI 0) (st := mkS w (hI S) J) (T_word0 (d := d + (3 * (r + 1) + 2)) hT (k := 12) (by decide) (nw 12 (by decide))) ?_
    refine (if_pos (by decide)).trans ?_
    refine cI_go (r := zI 0) (st := mkS w (hI S) J) (T_word0 (d := d + (3 * (r + 1) + 2)) hT (k := 13) (by decide) (nw 13 (by decide))) ?_
    refine (if_pos (by decide)).trans ?_
    refine cI_go (r := zI 0) (st := mkS w (hI S) J) (T_word0 (d := d + (3 * (r + 1) + 2)) hT (k := 7) (by decide) (nw 7 (by decide))) ?_
    refine (if_pos (by decide)).trans ?_
    refine cI_go (r := zI 0) (st := mkS w (hI S) J) (T_word0 (d := d + (3 * (r + 1) + 2)) hT (k := 14) (by decide) (nw 14 (by decide))) ?_
    refine (if_pos (by decide)).trans ?_
    refine cI_go (r := zI 0) (st := mkS w (hI S) J) (T_word0 (d := d + (3 * (r + 1) + 2)) hT (k := 9) (by decide) (nw 9 (by decide))) ?_
    refine (if_pos (by decide)).trans ?_
    refine cI_go (r := zI 1) (st := mkS w (hI S1) J) (g1 (d + (3 * (r + 1) + 2))) ?_
    refine (if_neg (by decide)).trans ?_
    refine cI_go (r := zI (sgW (oAgn B e G (sk B e (q + (wd B e q).length))))) (st := mkS w (hI S2) J) ?_ ?_
    · have := f1 d
      rw [show d + (3 * r + 7) = d + (3 * (r + 1) + 4) by omega] at this
      simp only [gI_mk, gJ_mk, zl]
      exact this
    simp (disch := omega) only [hk, hu, hI_n, hI_un, z_nat, em_d, zl, z_add, z_sub, z_mul, z_lt, z_eq, gI_mk, gJ_mk, cI_some, cV_some, cJ_some, cI_x, cV_x, cJ_x, uS_self, uS_ne, if_pos, if_neg, b01, b01n, ite_not, if_true, if_false, Bool.false_eq_true, hLL, bk_sgW, rI_d]
  · obtain ⟨S1, g1, g2, g3⟩ := M_word (X := X) w J hM hs
    obtain ⟨S2, f1, f2, f3⟩ := m_agn (X := X) hG hr g2 (by omega) he ((g3.2 7 (by decide)).trans h7) ((g3.2 30 (by decide)).trans h30) hj ((g3.2 18 (by decide)).trans h18) ((g3.2 19 (by decide)).trans h19) w J
    rw [show q + 5 = q + (wd B e q).length by omega] at f2
    have kv : kStp B e q = 5 := by
      unfold kStp
      rw [kw]
      decide
    refine ⟨S2, fun d n => ?_, f2, FR_tr (FR_m g3) f3 (Nat.le_refl _)⟩
    rw [e_X10_readStep_0]
    refine cI_go (r := zI (wV B e q : Nat)) (st := mkS w (hI S1) J) (g1 (d + (2 * (r + 1) + 4))) ?_
    refine cI_go (r := zI (5)) (st := mkS w (hI S1) J) ?_ ?_
    · rw [show (zI (5)) = zI (kStp B e q) by rw [kv]]
      exact m_stepOf (d := d + (2 * (r + 1) + 3))
    refine (if_neg (by decide)).trans ?_
    refine (if_pos (by decide)).trans ?_
    refine cV_go (st := mkS w (hI S2) J) ?_ ?_
    · have := f1 d
      rw [show d + (2 * r + 8) = d + (2 * (r + 1) + 6) by omega] at this
      simp only [gI_mk, gJ_mk]
      exact this
    rfl
theorem stp_rest (he : e ≤ 150) (hnc : 0 ≤ nc ∧ nc ≤ 100) (hnr : 0 ≤ nr ∧ nr ≤ 100) (hqe : q ≤ e) (hqs : sk B e q = q) (h : wd B e q = sx 15 → PG X B e bl nc nr r q) : PG X B e bl nc nr r q := by
  by_cases k12 : wd B e q = sx 12
  · exact stp_set he hnc hnr hqe hqs k12
  by_cases k13 : wd B e q = sx 13
  · exact stp_turn he hnc hnr hqe hqs k13
  by_cases k7 : wd B e q = sx 7
  · exact stp_load he hnc hnr hqe hqs k7
  by_cases k14 : wd B e q = sx 14
  · exact stp_off he hnc hnr hqe hqs k14
  by_cases k9 : wd B e q = sx 9
  · exact stp_hour he hnc hnr hqe hqs k9
  by_cases k15 : wd B e q = sx 15
  · exact h k15
  refine stp_none hqe hqs (fun k hk9 => ?_)
  simp only [List.mem_cons, List.not_mem_nil, or_false] at hk9
  rcases hk9 with z | z | z | z | z | z <;> rw [z] <;> assumption
theorem stp_all (he : e ≤ 150) (hnc : 0 ≤ nc ∧ nc ≤ 100) (hnr : 0 ≤ nr ∧ nr ≤ 100) : ∀ r, r ≤ 6 → ∀ q, q ≤ e → sk B e q = q → PG X B e bl nc nr r q
  | 0, _ => fun q hqe hqs => stp_rest he hnc hnr hqe hqs (fun k => stp_agn0 hqe k)
  | r + 1, h => fun q hqe hqs => stp_rest he hnc hnr hqe hqs (fun k => by
    obtain ⟨G, hG⟩ := PG_G (stp_all he hnc hnr r (by omega))
    exact stp_agnS he hG (by omega) hqe k)
end WK7
