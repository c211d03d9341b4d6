/-! A WORK RUNS: the reference, any steps -/
section MRU
variable {X : Nat × (Nat → Int32)} {d : Nat} {w : Bool × Bool × Bool} {S : Hp} {J : Nat → Nat → Int64} {nT nR nC : Int} {rd : Int → Int} {cd : List (Int × Int)} {j E r : Nat} {x : GSt}
abbrev GmH (X : Nat × (Nat → Int32)) (d : Nat) (w : Bool × Bool × Bool) (J : Nat → Nat → Int64) (nT nR nC : Int) (rd : Int → Int) (cd : List (Int × Int)) (n r : Nat) (L : List Tk) : Prop := ∀ (j E : Nat) (S : Hp) (x : GSt), MSt S 146 L j → E = 3 * (j + mL L) → E ≤ 150 → L.length ≤ 150 → RM nT nR nC rd cd S x → x.2.1 ≤ 200 → x.2.2.1 + x.2.2.2 ≤ x.2.1 → ∃ S', (∀ f, 100 * L.length + 1 ≤ f → aR X (d + r + 7) m_X10_goesSteps f 2 [some (.ref 132), none, some (.int (zI E)), some (.int (zI ((3 * j : Nat)))), none, none] (0, 0) (mkS w (hI S) J) = some (.inl none, (mkS w (hI S') J))) ∧ RM nT nR nC rd cd S' (goF cd rd nR nC n L x) ∧ FG S S' ∧ x.2.1 ≤ (goF cd rd nR nC n L x).2.1 ∧ (goF cd rd nR nC n L x).2.1 ≤ 200 ∧ (goF cd rd nR nC n L x).2.2.1 + (goF cd rd nR nC n L x).2.2.2 ≤ (goF cd rd nR nC n L x).2.1
theorem m_turns {n : Nat} {b : List Tk} (ih : GmH X d w J nT nR nC rd cd n r b) {m : Nat} (hm : m ≤ 60) (hE : E ≤ 150) (hlen : b.length ≤ 150) : ∀ (k c : Nat) (S : Hp) (x : GSt), c + k = m → MSt S 146 b (j + 1) → S 146 ((3 * j + 1 : Nat) : Int) = (m : Int) → 3 * (j + 1 + mL b) ≤ 150 → RM nT nR nC rd cd S x → x.2.1 ≤ 200 → x.2.2.1 + x.2.2.2 ≤ x.2.1 → ∃ S', (∀ f, k + 2 ≤ f → ∃ f', f ≤ f' + k + 1 ∧ aR X (d + (r + 1) + 7) m_X10_goesSteps f 30 [some (.ref 132), none, some (.int (zI E)), some (.int (zI ((3 * j : Nat)))), some (.int (zI ((3 * (j + 1 + mL b) : Nat)))), some (.int (zI c))] (0, 0) (mkS w (hI S) J) = aR X (d + (r + 1) + 7) m_X10_goesSteps f' 2 [some (.ref 132), none, some (.int (zI E)), some (.int (zI ((3 * (j + 1 + mL b) : Nat)))), none, none] (0, 0) (mkS w (hI S') J)) ∧ RM nT nR nC rd cd S' (goT (goF cd rd nR nC n b) k x) ∧ FG S S' ∧ x.2.1 ≤ (goT (goF cd rd nR nC n b) k x).2.1 ∧ (goT (goF cd rd nR nC n b) k x).2.1 ≤ 200 ∧ (goT (goF cd rd nR nC n b) k x).2.2.1 + (goT (goF cd rd nR nC n b) k x).2.2.2 ≤ (goT (goF cd rd nR nC n b) k x).2.1 := by
  intro k
  have ej0 : ((3 * j : Nat) : Int) = 3 * (j : Int) := by omega
  induction k with
  | zero =>
    intro c S x hc hM h1 h150 hRM hb hd
    have e1 : S 146 (3 * (j : Int) + 1) = (m : Int) := by rw [← h1]; congr 1
    refine ⟨S, fun f hf => ⟨f - 1, by omega, ?_⟩, hRM, FG_rf S, Nat.le_refl _, hb, hd⟩
    obtain ⟨g, rfl⟩ : ∃ g, f = g + 1 := ⟨f - 1, by omega⟩
    rw [e_X10_goesSteps_30, ej0]
    simp (disch := omega) only [hk, hu, hI_n, hI_un, z_nat, em_d, zl, z_add, z_sub, z_mul, z_lt, z_eq, gI_mk, gJ_mk, cI_some, cV_some, cJ_some, cI_x, cV_x, cJ_x, uS_self, uS_ne, if_pos, if_neg, b01, b01n, ite_not, if_true, if_false, Bool.false_eq_true, e1]
    rfl
  | succ k ihk =>
    intro c S x hc hM h1 h150 hRM hb hd
    have e1 : S 146 (3 * (j : Int) + 1) = (m : Int) := by rw [← h1]; congr 1
    have a5 := hRM.2.2.2.2.1
    by_cases kb : 200 ≤ x.2.1
    · rw [goT_full n b (k + 1) x kb]
      refine ⟨S, fun f hf => ⟨f - 1, by omega, ?_⟩, hRM, FG_rf S, Nat.le_refl _, hb, hd⟩
      obtain ⟨g, rfl⟩ : ∃ g, f = g + 1 := ⟨f - 1, by omega⟩
      rw [e_X10_goesSteps_30, ej0]
      simp (disch := omega) only [hk, hu, hI_n, hI_un, z_nat, em_d, zl, z_add, z_sub, z_mul, z_lt, z_eq, gI_mk, gJ_mk, cI_some, cV_some, cJ_some, cI_x, cV_x, cJ_x, uS_self, uS_ne, if_pos, if_neg, b01, b01n, ite_not, if_true, if_false, Bool.false_eq_true, e1, a5]
      rfl
    · obtain ⟨S1, g1, g2, g3, g4, g5, g6⟩ := ih (j + 1) (3 * (j + 1 + mL b)) S x hM rfl h150 hlen hRM hb hd
      obtain ⟨S2, t1, t2, t3, t4, t5, t6⟩ := ihk (c + 1) S1 (goF cd rd nR nC n b x) (by omega) (MSt_g hM g3) (by rw [g3.1 146 (by decide)]; exact h1) h150 g2 g5 g6
      refine ⟨S2, fun f hf => ?_, t2, FG_tr g3 t3, Nat.le_trans g4 t4, t5, t6⟩
      obtain ⟨g, rfl⟩ : ∃ g, f = g + 1 := ⟨f - 1, by omega⟩
      obtain ⟨f', q1, q2⟩ := t1 g (by omega)
      refine ⟨f', by omega, ?_⟩
      rw [← q2, e_X10_goesSteps_30, ej0]
      have hcall : am_call X aP (d + (r + 1) + 7) 196 [.ref 132, .int (zI (3 * (j : Int) + 3)), .int (zI (3 * (j + 1 + mL b) : Nat))] (mkS w (hI S) J) = some (.inl none, (mkS w (hI S1) J)) := by
        rw [show d + (r + 1) + 7 = (d + r + 7) + 1 by omega, go_X10_goesSteps, e_X10_goesSteps_0]
        have := g1 9999999 (by omega)
        rw [show ((3 * (j + 1) : Nat) : Int) = 3 * (j : Int) + 3 by omega] at this
        exact this
      simp (disch := omega) only [hk, hu, hI_n, hI_un, z_nat, em_d, zl, z_add, z_sub, z_mul, z_lt, z_eq, gI_mk, gJ_mk, cI_some, cV_some, cJ_some, cI_x, cV_x, cJ_x, uS_self, uS_ne, if_pos, if_neg, b01, b01n, ite_not, if_true, if_false, Bool.false_eq_true, e1, a5]
      rw [hcall]
      simp (disch := omega) only [hk, hu, hI_n, hI_un, z_nat, em_d, zl, z_add, z_sub, z_mul, z_lt, z_eq, gI_mk, gJ_mk, cI_some, cV_some, cJ_some, cI_x, cV_x, cJ_x, uS_self, uS_ne, if_pos, if_neg, b01, b01n, ite_not, if_true, if_false, Bool.false_eq_true]
      rw [show ((c + 1 : Nat) : Int) = (c : Int) + 1 by omega]
theorem m_goes : ∀ (n r : Nat) (L : List Tk), OkN nC nR n r L → GmH X d w J nT nR nC rd cd n r L := by
  intro n
  induction n with
  | zero =>
    intro r L hL j E S x hM hE hE2 hlen hRM hb hd
    rw [show L = [] from hL] at hE hlen ⊢
    refine ⟨S, fun f hf => ?_, hRM, FG_rf S, Nat.le_refl _, hb, hd⟩
    obtain ⟨g, rfl⟩ : ∃ g, f = g + 1 := ⟨f - 1, by omega⟩
    exact m_gstop hRM ⟨by omega, hE2⟩ hb (Or.inl hE.symm)
  | succ n ih =>
    intro r L hL j E S x hM hE hE2 hlen hRM hb hd
    by_cases kb : 200 ≤ x.2.1
    · rw [goF_full _ _ _ kb]
      refine ⟨S, fun f hf => ?_, hRM, FG_rf S, Nat.le_refl _, hb, hd⟩
      obtain ⟨g, rfl⟩ : ∃ g, f = g + 1 := ⟨f - 1, by omega⟩
      exact m_gstop hRM ⟨by omega, hE2⟩ hb (Or.inr kb)
    rcases hL with hL | ⟨k, a, b, t, hL, hok, hL2⟩ | ⟨m, b, t, hL, hm, hr1, hLb, hLt⟩
    · rw [hL] at hE ⊢
      refine ⟨S, fun f hf => ?_, hRM, FG_rf S, Nat.le_refl _, hb, hd⟩
      obtain ⟨g, rfl⟩ : ∃ g, f = g + 1 := ⟨f - 1, by omega⟩
      exact m_gstop hRM ⟨by omega, hE2⟩ hb (Or.inl hE.symm)
    · subst hL
      have hkk : k ≠ 5 ∧ k ≠ 6 ∧ 0 ≤ k ∧ k ≤ 4 := by
        unfold okst at hok
        omega
      have hlen2 : ((k, a, b, 0) :: t : List Tk).length = t.length + 1 := rfl
      have hml : mL ((k, a, b, 0) :: t) = 1 + mL t := by
        show (if k = 6 then 0 else 1) + mL t = _
        rw [if_neg hkk.2.1]
      unfold MSt at hM
      rw [if_neg hkk.2.1] at hM
      obtain ⟨⟨c1, c2, c3⟩, c4⟩ := hM
      have c3 : S 146 ((3 * j + 2 : Nat) : Int) = b := by
        rw [c3]
        exact if_neg hkk.1
      rw [goF_st hkk.1 kb]
      have eb := gst_b cd rd nR nC k a b x
      have ed := gst_d (cd := cd) (rd := rd) (nR := nR) (nC := nC) (k := k) (a := a) (b := b) (x := x)
      obtain ⟨S1, g1, g2, g3⟩ := m_gstep (X := X) (d := d) (r := r) (w := w) (J := J) (E := E) hRM ⟨by omega, hE2⟩ c1 c2 c3 hok (by omega) (by omega)
      obtain ⟨S2, t1, t2, t3, t4, t5, t6⟩ := ih r t hL2 (j + 1) E S1 (gst cd rd nR nC k a b x) (MSt_g c4 g3) (by omega) hE2 (by omega) g2 (by omega) (by omega)
      refine ⟨S2, fun f hf => ?_, t2, FG_tr g3 t3, by omega, t5, t6⟩
      obtain ⟨g, rfl⟩ : ∃ g, f = g + 1 := ⟨f - 1, by omega⟩
      exact (g1 g).trans (t1 g (by omega))
    · subst hL
      have hml : mL ((5, m, (b.length : Int), mL b) :: (b ++ (6, (b.length : Int), 0, 0) :: t)) = 1 + mL b + mL t := by
        show (if (5 : Int) = 6 then 0 else 1) + mL (b ++ (6, (b.length : Int), 0, 0) :: t) = _
        rw [mL_app, if_neg (by decide)]
        show 1 + (mL b + (0 + mL t)) = _
        omega
      have hal := ag_len (m := m) (b := b) (t := t)
      unfold MSt at hM
      rw [if_neg (show ¬ (5 : Int) = 6 by decide)] at hM
      obtain ⟨⟨c1, c2, c3⟩, c4⟩ := hM
      have c3 : S 146 ((3 * j + 2 : Nat) : Int) = ((3 * (j + 1 + mL b) : Nat) : Int) := by
        rw [c3]
        exact if_pos rfl
      have c5 := MSt_l b (j + 1) c4
      have c6 := MSt_r b (j + 1) c4
      unfold MSt at c6
      rw [if_pos (show (6 : Int) = 6 from rfl)] at c6
      obtain ⟨mn, hmn⟩ : ∃ mn : Nat, m = (mn : Int) := ⟨m.toNat, by omega⟩
      obtain ⟨r0, rfl⟩ : ∃ r0, r = r0 + 1 := ⟨r - 1, by omega⟩
      rw [goF_ag kb, show m.toNat = mn by omega]
      have q0 := FG_u S (k := 33) ((x.2.1 : Int) + 1) (by decide)
      have hRM1 : RM nT nR nC rd cd (uS S 132 33 ((x.2.1 : Int) + 1)) (x.1, x.2.1 + 1, x.2.2) := ⟨LdP_g hRM.1 q0, CdP_g hRM.2.1 q0, ScP_u hRM.2.2.1 _ _ (by decide), hRM.2.2.2.1, uS_self _ _ _ _, (uS_ne _ _ (Or.inr (by decide))).trans hRM.2.2.2.2.2.1, (uS_ne _ _ (Or.inr (by decide))).trans hRM.2.2.2.2.2.2⟩
      obtain ⟨S1, g1, g2, g3, g4, g5, g6⟩ := m_turns (X := X) (d := d) (w := w) (J := J) (j := j) (E := E) (ih r0 b hLb) (m := mn) (by omega) hE2 (by omega) mn 0 (uS S 132 33 ((x.2.1 : Int) + 1)) (x.1, x.2.1 + 1, x.2.2) (by omega) (MSt_g c5 q0) (by rw [uS_row _ _ _ (by decide), c2]; exact hmn) (by omega) hRM1 (by show x.2.1 + 1 ≤ 200; omega) (by show x.2.2.1 + x.2.2.2 ≤ x.2.1 + 1; omega)
      obtain ⟨S2, t1, t2, t3, t4, t5, t6⟩ := ih (r0 + 1) t hLt (j + 1 + mL b) E S1 (goT (goF cd rd nR nC n b) mn (x.1, x.2.1 + 1, x.2.2)) (MSt_g c6 (FG_tr q0 g3)) (by omega) hE2 (by omega) g2 g5 g6
      refine ⟨S2, fun f hf => ?_, t2, FG_tr q0 (FG_tr g3 t3), ?_, t5, t6⟩
      · obtain ⟨g, rfl⟩ : ∃ g, f = g + 1 := ⟨f - 1, by omega⟩
        have hag := m_gag (X := X) (w := w) (J := J) (D := d + (r0 + 1) + 7) (f := g) (E := E) hRM ⟨by omega, hE2⟩ (by omega) (m := m) c1 c3 (by omega)
        obtain ⟨f', q1, q2⟩ := g1 g (by omega)
        exact hag.trans (q2.trans (t1 f' (by omega)))
      · have : x.2.1 + 1 ≤ (goT (goF cd rd nR nC n b) mn (x.1, x.2.1 + 1, x.2.2)).2.1 := g4
        omega
end MRU
