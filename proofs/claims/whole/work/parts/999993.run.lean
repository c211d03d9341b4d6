/-! A WORK RUNS: the class's whole run -/
section RUN
variable {X : Nat × (Nat → Int32)} {d : Nat} {w : Bool × Bool × Bool} {S : Hp} {J : Nat → Nat → Int64} {nT nR nC : Int} {rd : Int → Int} {cd : List (Int × Int)} {bl bs bw : Bool} {sz : Nat} {i l : Nat}
theorem c_bAgn0 {m : Int} {n : Nat} (h5 : S 5 (i : Int) = m) (h6 : S 6 (i : Int) = ((i + 1 + n : Nat) : Int)) (hi : i + 1 + n < 150) (hm : 0 ≤ m ∧ m ≤ 60) (h : m = 0 ∨ n = 0) : am_call X aP (d + 1) 75 [.ref 3, .int (zI i)] (mkS w (hI S) J) = some (.inl (some (.int (zI ((i + 1 + n + 1 : Nat))))), (mkS w (hI S) J)) := by
  rw [go_X6_behindAgain, e_X6_behindAgain_0]
  have e : ((i + 1 + n : Nat) : Int) + 1 = ((i + 1 + n + 1 : Nat) : Int) := by omega
  by_cases k : m = 0
  · simp (disch := omega) only [hk, hu, hI_n, hI_un, z_nat, em_d, zl, z_add, z_sub, z_mul, z_lt, z_eq, gI_mk, gJ_mk, cI_some, cV_some, cJ_some, cI_x, cV_x, cJ_x, uS_self, uS_ne, if_pos, if_neg, b01, b01n, ite_not, if_true, if_false, Bool.false_eq_true, hLL, h5, h6, k, rI_d, e]
  · have hn : n = 0 := by omega
    subst hn
    have e3 : ((i + 1 + 0 : Nat) : Int) = (i : Int) + 1 := by omega
    simp (disch := omega) only [hk, hu, hI_n, hI_un, z_nat, em_d, zl, z_add, z_sub, z_mul, z_lt, z_eq, gI_mk, gJ_mk, cI_some, cV_some, cJ_some, cI_x, cV_x, cJ_x, uS_self, uS_ne, if_pos, if_neg, b01, b01n, ite_not, if_true, if_false, Bool.false_eq_true, hLL, h5, h6, e3, rI_d]
    rw [show ((i + 1 + 0 + 1 : Nat) : Int) = (i : Int) + 1 + 1 by omega]
theorem c_bAgn1 {m : Int} {n : Nat} (h5 : S 5 (i : Int) = m) (h6 : S 6 (i : Int) = ((i + 1 + n : Nat) : Int)) (hi : i + 1 + n < 150) (hm : 1 ≤ m ∧ m ≤ 60) (hn : 1 ≤ n) (hl : S 3 5 = (l : Int)) (hl6 : l < 6) : am_call X aP (d + 1) 75 [.ref 3, .int (zI i)] (mkS w (hI S) J) = some (.inl (some (.int (zI ((i + 1 : Nat))))), (mkS w (hI (uS (uS S 7 (l : Int) m) 3 5 ((l : Int) + 1))) J)) := by
  rw [go_X6_behindAgain, e_X6_behindAgain_0]
  simp (disch := omega) only [hk, hu, hI_n, hI_un, z_nat, em_d, zl, z_add, z_sub, z_mul, z_lt, z_eq, gI_mk, gJ_mk, cI_some, cV_some, cJ_some, cI_x, cV_x, cJ_x, uS_self, uS_ne, if_pos, if_neg, b01, b01n, ite_not, if_true, if_false, Bool.false_eq_true, hLL, h5, h6, hl, rI_d]
  rw [show ((i + 1 : Nat) : Int) = (i : Int) + 1 by omega]
theorem c_bTurn1 {k : Int} {x : Nat} (hl : S 3 5 = (l : Int) + 1) (hl6 : l < 6) (h7 : S 7 (l : Int) = k) (hk9 : 2 ≤ k ∧ k ≤ 60) (hx : x < 150) (h5 : S 5 (x : Int) = (i : Int)) (hi : i < 150) : am_call X aP (d + 1) 76 [.ref 3, .int (zI x)] (mkS w (hI S) J) = some (.inl (some (.int (zI ((i + 1 : Nat))))), (mkS w (hI (uS S 7 (l : Int) (k - 1))) J)) := by
  rw [go_X6_behindTurn, e_X6_behindTurn_0]
  have e1 : (l : Int) + 1 - 1 = (l : Int) := by omega
  simp (disch := omega) only [hk, hu, hI_n, hI_un, z_nat, em_d, zl, z_add, z_sub, z_mul, z_lt, z_eq, gI_mk, gJ_mk, cI_some, cV_some, cJ_some, cI_x, cV_x, cJ_x, uS_self, uS_ne, if_pos, if_neg, b01, b01n, ite_not, if_true, if_false, Bool.false_eq_true, hLL, hl, h7, h5, e1, rI_d]
  rw [show ((i + 1 : Nat) : Int) = (i : Int) + 1 by omega]
theorem c_bTurn0 {x : Nat} (hl : S 3 5 = (l : Int) + 1) (hl6 : l < 6) (h7 : S 7 (l : Int) = 1) (hx : x < 150) : am_call X aP (d + 1) 76 [.ref 3, .int (zI x)] (mkS w (hI S) J) = some (.inl (some (.int (zI ((x + 1 : Nat))))), (mkS w (hI (uS (uS S 7 (l : Int) 0) 3 5 (l : Int))) J)) := by
  rw [go_X6_behindTurn, e_X6_behindTurn_0]
  have e1 : (l : Int) + 1 - 1 = (l : Int) := by omega
  have e2 : (1 : Int) - 1 = 0 := rfl
  simp (disch := omega) only [hk, hu, hI_n, hI_un, z_nat, em_d, zl, z_add, z_sub, z_mul, z_lt, z_eq, gI_mk, gJ_mk, cI_some, cV_some, cJ_some, cI_x, cV_x, cJ_x, uS_self, uS_ne, if_pos, if_neg, b01, b01n, ite_not, if_true, if_false, Bool.false_eq_true, hLL, hl, h7, e1, e2, rI_d]
  rw [show ((x + 1 : Nat) : Int) = (x : Int) + 1 by omega]
/-- what running from i to i' comes to -/
def GoC (X : Nat × (Nat → Int32)) (d : Nat) (w : Bool × Bool × Bool) (J : Nat → Nat → Int64) (bl bs bw : Bool) (nT nR nC : Int) (rd : Int → Int) (cd : List (Int × Int)) (sz : Nat) (x x' : GSt) (i i' l l' u : Nat) (ne : Prop) (r : Nat) (S S' : Hp) : Prop := (RC bl bs bw nT nR nC rd cd sz S' x' ∧ Fr (3 :: 7 :: dsL bw bs) S S' ∧ (∀ t : Nat, t < l' → S' 7 (t : Int) = S 7 (t : Int)) ∧ x.2.1 ≤ x'.2.1 ∧ x'.2.1 ≤ 200 ∧ x'.2.2.1 + x'.2.2.2 ≤ x'.2.1) ∧ ((∃ u' : Nat, u' ≤ u ∧ u ≤ u' + 8 * (x'.2.1 - x.2.1) ∧ (ne → u + 7 ≤ u' + 8 * (x'.2.1 - x.2.1) + r) ∧ S' 3 5 = (l' : Int) ∧ ∀ f, aR X (d + 6) m_X6_run (f + u + 1) 15 [some (.ref 3), some (.ref ((iL bl))), some (.ref ((iW bw))), some (.ref ((iS bs))), some (.int (zI x.2.1)), some (.int (zI i)), some (.int (zI ((100000 - (u : Int)))))] (0, 0) (mkS w (hI S) J) = aR X (d + 6) m_X6_run (f + u' + 1) 15 [some (.ref 3), some (.ref ((iL bl))), some (.ref ((iW bw))), some (.ref ((iS bs))), some (.int (zI x'.2.1)), some (.int (zI i')), some (.int (zI ((100000 - (u' : Int)))))] (0, 0) (mkS w (hI S') J)) ∨ (x'.2.1 = 200 ∧ ∀ f, aR X (d + 6) m_X6_run (f + u + 1) 15 [some (.ref 3), some (.ref ((iL bl))), some (.ref ((iW bw))), some (.ref ((iS bs))), some (.int (zI x.2.1)), some (.int (zI i)), some (.int (zI ((100000 - (u : Int)))))] (0, 0) (mkS w (hI S) J) = some (.inl none, (mkS w (hI S') J))))
theorem CSt_fr {S S' : Hp} {L : List Tk} (h : CSt S L i) (hF : Fr (3 :: 7 :: dsL bw bs) S S') : CSt S' L i := CSt_ext L i (fun j _ _ => by
  rw [hF 4 (by cases bw <;> cases bs <;> decide), hF 5 (by cases bw <;> cases bs <;> decide), hF 6 (by cases bw <;> cases bs <;> decide)]
  exact ⟨rfl, rfl, rfl⟩) h
theorem gst_d {k a b : Int} {x : GSt} : (gst cd rd nR nC k a b x).2.2.1 + (gst cd rd nR nC k a b x).2.2.2 = x.2.2.1 + x.2.2.2 + 1 := by
  unfold gst
  by_cases p : canDo rd x.1 k a b = true
  · rw [if_pos p]
    show x.2.2.1 + 1 + x.2.2.2 = _
    omega
  · rw [if_neg p]
    rfl
abbrev GoH (X : Nat × (Nat → Int32)) (d : Nat) (w : Bool × Bool × Bool) (J : Nat → Nat → Int64) (bl bs bw : Bool) (nT nR nC : Int) (rd : Int → Int) (cd : List (Int × Int)) (sz n r : Nat) (L : List Tk) : Prop := ∀ (i l u : Nat) (S : Hp) (x : GSt), CSt S L i → i + L.length ≤ sz → l + r ≤ 6 → RC bl bs bw nT nR nC rd cd sz S x → S 3 5 = (l : Int) → x.2.1 ≤ 200 → x.2.2.1 + x.2.2.2 ≤ x.2.1 → 8 * (200 - x.2.1) + 8 ≤ u → u ≤ 100000 → ∃ S', GoC X d w J bl bs bw nT nR nC rd cd sz x (goF cd rd nR nC n L x) i (i + L.length) l l u (L ≠ []) r S S'
/-- the turns of an again -/
theorem c_turns (hz : sz ≤ 150) {n r : Nat} {b : List Tk} (hbn : b ≠ []) (hr : r < 6) (ih : GoH X d w J bl bs bw nT nR nC rd cd sz n r b) : ∀ (k i l u : Nat) (S : Hp) (x : GSt), k + 1 ≤ 60 → CSt S b (i + 1) → S 4 ((i + 1 + b.length : Nat) : Int) = 6 → S 5 ((i + 1 + b.length : Nat) : Int) = (i : Int) → i + 1 + b.length < sz → l + (r + 1) ≤ 6 → RC bl bs bw nT nR nC rd cd sz S x → S 3 5 = ((l + 1 : Nat) : Int) → S 7 (l : Int) = ((k + 1 : Nat) : Int) → x.2.1 ≤ 200 → x.2.2.1 + x.2.2.2 ≤ x.2.1 → 8 * (200 - x.2.1) + 8 ≤ u → u ≤ 100000 → ∃ S', GoC X d w J bl bs bw nT nR nC rd cd sz x (goT (goF cd rd nR nC n b) (k + 1) x) (i + 1) (i + 1 + b.length + 1) (l + 1) l u True (r + 1) S S' := by
  intro k
  induction k with
  | zero =>
    intro i l u S x hk1 hc h4 h5 hi hl hRC h35 h7 hb hd hu hu2
    obtain ⟨S1, ⟨g1, g2, g3, g4, g5, g6⟩, g7⟩ := ih (i + 1) (l + 1) u S x hc (by omega) (by omega) hRC h35 hb hd hu hu2
    rcases g7 with ⟨u1, q1, q2, q3, q4, q5⟩ | ⟨q1, q2⟩
    · have q3 := q3 hbn
      have e4 : S1 4 ((i + 1 + b.length : Nat) : Int) = 6 := by rw [g2 4 (by cases bw <;> cases bs <;> decide)]; exact h4
      have e7 : S1 7 (l : Int) = 1 := by rw [g3 l (by omega)]; exact h7
      have hend := c_bTurn0 (X := X) (d := d + 5) (w := w) (J := J) (S := S1) (l := l) (x := i + 1 + b.length) (by rw [q4]; omega) (by omega) e7 (by omega)
      refine ⟨uS (uS S1 7 (l : Int) 0) 3 5 (l : Int), ⟨RC_37 g1 (Fr_tr (Fr_u S1 (L := [7]) _ _ (by decide)) (Fr_u _ (L := [3]) _ _ (by decide)) (by decide) (by decide)) rfl ?_ ?_ ?_, Fr_tr g2 (Fr_tr (L := [3, 7]) (Fr_u S1 (L := [7]) _ _ (by decide)) (Fr_u _ (L := [3]) _ _ (by decide)) (by decide) (by decide)) (fun o ho => ho) (fun o ho => ?_), fun t ht => ?_, g4, g5, g6⟩, Or.inl ⟨u1 - 1, by omega, ?_, fun _ => ?_, uS_self _ _ _ _, fun f => ?_⟩⟩
      · rw [uS_ne _ _ (Or.inr (by decide)), uS_row _ _ _ (by decide)]
        exact g1.2.2.2.2.1
      · rw [uS_ne _ _ (Or.inr (by decide)), uS_row _ _ _ (by decide)]
        exact g1.2.2.2.2.2.1
      · rw [uS_ne _ _ (Or.inr (by decide)), uS_row _ _ _ (by decide)]
        exact g1.2.2.2.2.2.2
      · simp only [List.mem_cons, List.not_mem_nil, or_false] at ho ⊢
        omega
      · rw [uS_ne _ _ (Or.inl (by decide)), uS_ne _ _ (Or.inr (by omega))]
        exact g3 t (by omega)
      · show u ≤ u1 - 1 + 8 * ((goF cd rd nR nC n b x).2.1 - x.2.1)
        omega
      · show u + 7 ≤ u1 - 1 + 8 * ((goF cd rd nR nC n b x).2.1 - x.2.1) + (r + 1)
        omega
      · rw [q5 f]
        have := c_mvEnd (g := f + u1) (u := u1) g1 hi hz ⟨by omega, by omega⟩ e4 hend
        rw [this]
        rw [show f + (u1 - 1) + 1 = f + u1 by omega, show (100000 : Int) - ((u1 - 1 : Nat) : Int) = 100000 - (u1 : Int) + 1 by omega]
        rfl
    · exact ⟨S1, ⟨g1, g2, fun t ht => g3 t (by omega), g4, g5, g6⟩, Or.inr ⟨q1, q2⟩⟩
  | succ k ihk =>
    intro i l u S x hk1 hc h4 h5 hi hl hRC h35 h7 hb hd hu hu2
    obtain ⟨S1, ⟨g1, g2, g3, g4, g5, g6⟩, g7⟩ := ih (i + 1) (l + 1) u S x hc (by omega) (by omega) hRC h35 hb hd hu hu2
    show ∃ S', GoC X d w J bl bs bw nT nR nC rd cd sz x (goT (goF cd rd nR nC n b) (k + 1) (goF cd rd nR nC n b x)) (i + 1) (i + 1 + b.length + 1) (l + 1) l u True (r + 1) S S'
    rcases g7 with ⟨u1, q1, q2, q3, q4, q5⟩ | ⟨q1, q2⟩
    · have q3 := q3 hbn
      have e4 : S1 4 ((i + 1 + b.length : Nat) : Int) = 6 := by rw [g2 4 (by cases bw <;> cases bs <;> decide)]; exact h4
      have e5 : S1 5 ((i + 1 + b.length : Nat) : Int) = (i : Int) := by rw [g2 5 (by cases bw <;> cases bs <;> decide)]; exact h5
      have e7 : S1 7 (l : Int) = ((k + 1 + 1 : Nat) : Int) := by rw [g3 l (by omega)]; exact h7
      have hend := c_bTurn1 (X := X) (d := d + 5) (w := w) (J := J) (S := S1) (l := l) (i := i) (x := i + 1 + b.length) (by rw [q4]; omega) (by omega) e7 (by omega) (by omega) e5 (by omega)
      have hF2 : Fr [3, 7] S1 (uS S1 7 (l : Int) (((k + 1 + 1 : Nat) : Int) - 1)) := Fr_u _ _ _ (by decide)
      have hRC2 : RC bl bs bw nT nR nC rd cd sz (uS S1 7 (l : Int) (((k + 1 + 1 : Nat) : Int) - 1)) (goF cd rd nR nC n b x) := RC_37 g1 hF2 rfl (by rw [uS_row _ _ _ (by decide)]; exact g1.2.2.2.2.1) (by rw [uS_row _ _ _ (by decide)]; exact g1.2.2.2.2.2.1) (by rw [uS_row _ _ _ (by decide)]; exact g1.2.2.2.2.2.2)
      have hF3 : Fr (3 :: 7 :: dsL bw bs) S (uS S1 7 (l : Int) (((k + 1 + 1 : Nat) : Int) - 1)) := Fr_tr g2 hF2 (fun o ho => ho) (fun o ho => by
        simp only [List.mem_cons, List.not_mem_nil, or_false] at ho ⊢
        omega)
      obtain ⟨S3, ⟨t1, t2, t3, t4, t5, t6⟩, t7⟩ := ihk i l (u1 - 1) (uS S1 7 (l : Int) (((k + 1 + 1 : Nat) : Int) - 1)) (goF cd rd nR nC n b x) (by omega) (CSt_fr hc hF3) (by rw [uS_row _ _ _ (by decide)]; exact e4) (by rw [uS_row _ _ _ (by decide)]; exact e5) hi hl hRC2 (by rw [uS_row _ _ _ (by decide)]; exact q4) (by rw [uS_self]; omega) g5 g6 (by omega) (by omega)
      have hAR : ∀ f, aR X (d + 6) m_X6_run (f + u + 1) 15 [some (.ref 3), some (.ref ((iL bl))), some (.ref ((iW bw))), some (.ref ((iS bs))), some (.int (zI x.2.1)), some (.int (zI ((i + 1 : Nat)))), some (.int (zI ((100000 - (u : Int)))))] (0, 0) (mkS w (hI S) J) = aR X (d + 6) m_X6_run (f + (u1 - 1) + 1) 15 [some (.ref 3), some (.ref ((iL bl))), some (.ref ((iW bw))), some (.ref ((iS bs))), some (.int (zI ((goF cd rd nR nC n b x).2.1))), some (.int (zI ((i + 1 : Nat)))), some (.int (zI ((100000 - ((u1 - 1 : Nat) : Int)))))] (0, 0) (mkS w (hI (uS S1 7 (l : Int) (((k + 1 + 1 : Nat) : Int) - 1))) J) := fun f => by
        rw [q5 f]
        have := c_mvEnd (g := f + u1) (u := u1) g1 hi hz ⟨by omega, by omega⟩ e4 hend
        rw [this]
        rw [show f + (u1 - 1) + 1 = f + u1 by omega, show (100000 : Int) - ((u1 - 1 : Nat) : Int) = 100000 - (u1 : Int) + 1 by omega]
      refine ⟨S3, ⟨t1, Fr_tr hF3 t2 (fun o ho => ho) (fun o ho => ho), fun t ht => ?_, Nat.le_trans g4 t4, t5, t6⟩, ?_⟩
      · rw [t3 t ht, uS_ne _ _ (Or.inr (by omega))]
        exact g3 t (by omega)
      · rcases t7 with ⟨u2, p1, p2, p3, p4, p5⟩ | ⟨p1, p2⟩
        · have p3 := p3 trivial
          exact Or.inl ⟨u2, by omega, by omega, fun _ => by omega, p4, fun f => (hAR f).trans (p5 f)⟩
        · exact Or.inr ⟨p1, fun f => (hAR f).trans (p2 f)⟩
    · rw [goT_full n b (k + 1) _ (by omega)]
      exact ⟨S1, ⟨g1, g2, fun t ht => g3 t (by omega), g4, g5, g6⟩, Or.inr ⟨q1, q2⟩⟩
end RUN
