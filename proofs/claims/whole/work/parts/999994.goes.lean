/-! A WORK RUNS: the class, any steps -/
section GOE
variable {X : Nat × (Nat → Int32)} {d : Nat} {w : Bool × Bool × Bool} {S : Hp} {J : Nat → Nat → Int64} {nT nR nC : Int} {rd : Int → Int} {cd : List (Int × Int)} {bl bs bw : Bool} {sz : Nat} {i l : Nat}
theorem CSt_hd {k a b : Int} {m : Nat} {t : List Tk} (hk9 : k ≠ 5 ∧ k ≠ 6) (h : CSt S ((k, a, b, m) :: t) i) : (S 4 (i : Int) = k ∧ S 5 (i : Int) = a ∧ S 6 (i : Int) = b) ∧ CSt S t (i + 1) := by
  obtain ⟨⟨h1, h2, h3⟩, h4⟩ := h
  rw [if_neg hk9.2] at h2
  rw [if_neg hk9.1] at h3
  exact ⟨⟨h1, h2, h3⟩, h4⟩
theorem CSt_ag {m : Int} {b t : List Tk} (h : CSt S ((5, m, (b.length : Int), mL b) :: (b ++ (6, (b.length : Int), 0, 0) :: t)) i) : (S 4 (i : Int) = 5 ∧ S 5 (i : Int) = m ∧ S 6 (i : Int) = ((i + 1 + b.length : Nat) : Int)) ∧ CSt S b (i + 1) ∧ (S 4 ((i + 1 + b.length : Nat) : Int) = 6 ∧ S 5 ((i + 1 + b.length : Nat) : Int) = (i : Int)) ∧ CSt S t (i + 1 + b.length + 1) := by
  obtain ⟨⟨h1, h2, h3⟩, h4⟩ := h
  have h5 := CSt_r b (i + 1) h4
  obtain ⟨⟨g1, g2, g3⟩, g4⟩ := h5
  refine ⟨⟨h1, h2, ?_⟩, CSt_l b (i + 1) h4, ⟨g1, ?_⟩, g4⟩
  · rw [h3]
    show (i : Int) + 1 + (b.length : Int) = ((i + 1 + b.length : Nat) : Int)
    omega
  · rw [g2]
    show ((i + 1 + b.length : Nat) : Int) - 1 - (b.length : Int) = (i : Int)
    omega
theorem ag_len {m : Int} {b t : List Tk} : ((5, m, (b.length : Int), mL b) :: (b ++ (6, (b.length : Int), 0, 0) :: t) : List Tk).length = b.length + t.length + 2 := by
  rw [List.length_cons, List.length_append, List.length_cons]
  omega
/-- one behind the other -/
theorem GoC_tr {x x1 x' : GSt} {i i1 i' l l1 l' u u1 r r' : Nat} {ne : Prop} {S S1 S' : Hp} (hRC : Fr (3 :: 7 :: dsL bw bs) S S1) (hl : l' ≤ l1) (h7 : ∀ t : Nat, t < l' → S1 7 (t : Int) = S 7 (t : Int)) (hb : x.2.1 ≤ x1.2.1) (hu : u1 ≤ u ∧ u + 7 ≤ u1 + 8 * (x1.2.1 - x.2.1) + r) (hr : r ≤ 6) (hAR : ∀ f, aR X (d + 6) m_X6_run (f + u + 1) 15 [some (.ref 3), some (.ref ((iL bl))), some (.ref ((iW bw))), some (.ref ((iS bs))), some (.int (zI x.2.1)), some (.int (zI i)), some (.int (zI ((100000 - (u : Int)))))] (0, 0) (mkS w (hI S) J) = aR X (d + 6) m_X6_run (f + u1 + 1) 15 [some (.ref 3), some (.ref ((iL bl))), some (.ref ((iW bw))), some (.ref ((iS bs))), some (.int (zI x1.2.1)), some (.int (zI i1)), some (.int (zI ((100000 - (u1 : Int)))))] (0, 0) (mkS w (hI S1) J)) (h : GoC X d w J bl bs bw nT nR nC rd cd sz x1 x' i1 i' l1 l' u1 ne r' S1 S') : GoC X d w J bl bs bw nT nR nC rd cd sz x x' i i' l l' u True r S S' := by
  obtain ⟨⟨g1, g2, g3, g4, g5, g6⟩, g7⟩ := h
  refine ⟨⟨g1, Fr_tr hRC g2 (fun o ho => ho) (fun o ho => ho), fun t ht => (g3 t ht).trans (h7 t ht), Nat.le_trans hb g4, g5, g6⟩, ?_⟩
  rcases g7 with ⟨u2, p1, p2, p3, p4, p5⟩ | ⟨p1, p2⟩
  · exact Or.inl ⟨u2, by omega, by omega, fun _ => by omega, p4, fun f => (hAR f).trans (p5 f)⟩
  · exact Or.inr ⟨p1, fun f => (hAR f).trans (p2 f)⟩
theorem GoC_ne {x x' : GSt} {i i' l l' u r : Nat} {ne ne' : Prop} {S S' : Hp} (h : GoC X d w J bl bs bw nT nR nC rd cd sz x x' i i' l l' u ne r S S') (hn : ne' → ne) : GoC X d w J bl bs bw nT nR nC rd cd sz x x' i i' l l' u ne' r S S' := by
  refine ⟨h.1, ?_⟩
  rcases h.2 with ⟨u2, p1, p2, p3, p4, p5⟩ | p
  · exact Or.inl ⟨u2, p1, p2, fun z => p3 (hn z), p4, p5⟩
  · exact Or.inr p
theorem c_goes (hz : sz ≤ 150) (hR : nR ≤ 12) (hC : 0 ≤ nC ∧ nC ≤ 5) (hrd : Rd nR rd) : ∀ (n r : Nat) (L : List Tk), OkN nC nR n r L → GoH X d w J bl bs bw nT nR nC rd cd sz n r L := by
  intro n
  induction n with
  | zero =>
    intro r L hL i l u S x hc hi hl hRC h35 hb hd hu hu2
    rw [show L = [] from hL]
    exact ⟨S, ⟨hRC, fun _ _ => rfl, fun _ _ => rfl, Nat.le_refl _, hb, hd⟩, Or.inl ⟨u, Nat.le_refl _, Nat.le_add_right .., fun z => absurd rfl z, h35, fun f => rfl⟩⟩
  | succ n ih =>
    intro r L hL i l u S x hc hi hl hRC h35 hb hd hu hu2
    rcases hL with hL | ⟨k, a, b, t, hL, hok, hL2⟩ | ⟨m, b, t, hL, hm, hr1, hLb, hLt⟩
    · rw [hL]
      exact ⟨S, ⟨hRC, fun _ _ => rfl, fun _ _ => rfl, Nat.le_refl _, hb, hd⟩, Or.inl ⟨u, Nat.le_refl _, Nat.le_add_right .., fun z => absurd rfl z, h35, fun f => rfl⟩⟩
    · subst hL
      have hkk : k ≠ 5 ∧ k ≠ 6 ∧ 0 ≤ k ∧ k ≤ 4 := by
        unfold okst at hok
        omega
      have hlen : ((k, a, b, 0) :: t : List Tk).length = t.length + 1 := rfl
      obtain ⟨⟨c1, c2, c3⟩, c4⟩ := CSt_hd ⟨hkk.1, hkk.2.1⟩ hc
      by_cases kb : 200 ≤ x.2.1
      · rw [goF_full _ _ _ kb]
        exact ⟨S, ⟨hRC, fun _ _ => rfl, fun _ _ => rfl, Nat.le_refl _, hb, hd⟩, Or.inr ⟨by omega, fun f => c_mvStop (g := f + u) hRC (by omega) hz ⟨by omega, hu2⟩ (by omega) kb hb (by omega)⟩⟩
      · rw [goF_st hkk.1 kb]
        have eb := gst_b cd rd nR nC k a b x
        have ed := gst_d (cd := cd) (rd := rd) (nR := nR) (nC := nC) (k := k) (a := a) (b := b) (x := x)
        obtain ⟨S1, g1, g2, g3, g4⟩ := c_mvStep (X := X) (d := d) (w := w) (J := J) hRC hR hC hrd (by omega) hz (u := u) ⟨by omega, hu2⟩ c1 c2 c3 hok (by omega) (by omega)
        have hF : Fr (3 :: 7 :: dsL bw bs) S S1 := Fr_mono g3 (fun o ho => by
          simp only [List.mem_cons, List.not_mem_nil, or_false] at ho ⊢
          omega)
        obtain ⟨S2, q⟩ := ih r t hL2 (i + 1) l (u - 1) S1 (gst cd rd nR nC k a b x) (CSt_fr c4 hF) (by omega) hl g2 (by rw [g4]; exact h35) (by omega) (by omega) (by omega) (by omega)
        refine ⟨S2, ?_⟩
        rw [show i + ((k, a, b, 0) :: t : List Tk).length = i + 1 + t.length by omega]
        refine GoC_ne (GoC_tr (l := l) hF (Nat.le_refl _) (fun z _ => ?_) (by omega) ⟨by omega, by omega⟩ (by omega) (fun f => ?_) q) (fun _ => trivial)
        · rw [g3 7 (by cases bw <;> cases bs <;> decide)]
        · rw [g1 (f + u), show f + (u - 1) + 1 = f + u by omega, eb, show (100000 : Int) - ((u - 1 : Nat) : Int) = 100000 - (u : Int) + 1 by omega]
          rfl
    · subst hL
      rw [ag_len] at hi
      obtain ⟨⟨c1, c2, c3⟩, c4, ⟨c5, c6⟩, c7⟩ := CSt_ag hc
      by_cases kb : 200 ≤ x.2.1
      · rw [goF_full _ _ _ kb]
        exact ⟨S, ⟨hRC, fun _ _ => rfl, fun _ _ => rfl, Nat.le_refl _, hb, hd⟩, Or.inr ⟨by omega, fun f => c_mvStop (g := f + u) hRC (by omega) hz ⟨by omega, hu2⟩ (by omega) kb hb (by omega)⟩⟩
      · rw [goF_ag kb, ag_len]
        rw [show i + (b.length + t.length + 2) = i + 1 + b.length + 1 + t.length by omega]
        by_cases kz : m = 0 ∨ b.length = 0
        · have e1 : goT (goF cd rd nR nC n b) m.toNat (x.1, x.2.1 + 1, x.2.2) = (x.1, x.2.1 + 1, x.2.2) := by
            rcases kz with kz | kz
            · rw [kz]
              rfl
            · rw [List.length_eq_zero_iff.mp kz]
              exact goT_nil _ _ _
          rw [e1]
          have hag := c_bAgn0 (X := X) (d := d + 5) (w := w) (J := J) (n := b.length) c2 c3 (by omega) hm kz
          have hRC1 : RC bl bs bw nT nR nC rd cd sz S (x.1, x.2.1 + 1, x.2.2) := hRC
          obtain ⟨S2, q⟩ := ih r t hLt (i + 1 + b.length + 1) l (u - 1) S (x.1, x.2.1 + 1, x.2.2) c7 (by omega) hl hRC1 h35 (by show x.2.1 + 1 ≤ 200; omega) (by show x.2.2.1 + x.2.2.2 ≤ x.2.1 + 1; omega) (by show 8 * (200 - (x.2.1 + 1)) + 8 ≤ u - 1; omega) (by omega)
          refine ⟨S2, GoC_ne (GoC_tr (l := l) (fun _ _ => rfl) (Nat.le_refl _) (fun z _ => rfl) (Nat.le_succ _) ⟨by omega, by show u + 7 ≤ u - 1 + 8 * (x.2.1 + 1 - x.2.1) + r; omega⟩ (by omega) (fun f => ?_) q) (fun _ => trivial)⟩
          have := c_mvAgn (g := f + u) hRC (by omega) hz ⟨by omega, hu2⟩ c1 (by omega) hag
          rw [this, show f + (u - 1) + 1 = f + u by omega, show (100000 : Int) - ((u - 1 : Nat) : Int) = 100000 - (u : Int) + 1 by omega]
          rfl
        · have hbn : b ≠ [] := fun z => kz (Or.inr (by rw [z]; rfl))
          have hbl : 1 ≤ b.length := by omega
          obtain ⟨r0, rfl⟩ : ∃ r0, r = r0 + 1 := ⟨r - 1, by omega⟩
          have hag := c_bAgn1 (X := X) (d := d + 5) (w := w) (J := J) (S := S) (n := b.length) (l := l) c2 c3 (by omega) ⟨by omega, hm.2⟩ hbl h35 (by omega)
          obtain ⟨k, hk9⟩ : ∃ k : Nat, m = ((k + 1 : Nat) : Int) := ⟨m.toNat - 1, by omega⟩
          have hF1 : Fr [3, 7] S (uS (uS S 7 (l : Int) m) 3 5 ((l : Int) + 1)) := Fr_tr (Fr_u S (L := [7]) _ _ (by decide)) (Fr_u _ (L := [3]) _ _ (by decide)) (by decide) (by decide)
          have hF2 : Fr (3 :: 7 :: dsL bw bs) S (uS (uS S 7 (l : Int) m) 3 5 ((l : Int) + 1)) := Fr_mono hF1 (fun o ho => by
            simp only [List.mem_cons, List.not_mem_nil, or_false] at ho ⊢
            omega)
          have hRC1 : RC bl bs bw nT nR nC rd cd sz (uS (uS S 7 (l : Int) m) 3 5 ((l : Int) + 1)) (x.1, x.2.1 + 1, x.2.2) := RC_37 (y := (x.1, x.2.1 + 1, x.2.2)) hRC hF1 rfl (by rw [uS_ne _ _ (Or.inr (by decide)), uS_row _ _ _ (by decide)]; exact hRC.2.2.2.2.1) (by rw [uS_ne _ _ (Or.inr (by decide)), uS_row _ _ _ (by decide)]; exact hRC.2.2.2.2.2.1) (by rw [uS_ne _ _ (Or.inr (by decide)), uS_row _ _ _ (by decide)]; exact hRC.2.2.2.2.2.2)
          obtain ⟨S2, q⟩ := c_turns hz hbn (by omega) (ih r0 b hLb) k i l (u - 1) (uS (uS S 7 (l : Int) m) 3 5 ((l : Int) + 1)) (x.1, x.2.1 + 1, x.2.2) (by omega) (CSt_fr c4 hF2) (by rw [uS_row _ _ _ (by decide), uS_row _ _ _ (by decide)]; exact c5) (by rw [uS_row _ _ _ (by decide), uS_row _ _ _ (by decide)]; exact c6) (by omega) (by omega) hRC1 (by rw [uS_self]; omega) (by rw [uS_ne _ _ (Or.inl (by decide)), uS_self]; exact hk9) (by show x.2.1 + 1 ≤ 200; omega) (by show x.2.2.1 + x.2.2.2 ≤ x.2.1 + 1; omega) (by show 8 * (200 - (x.2.1 + 1)) + 8 ≤ u - 1; omega) (by omega)
          have q1 : GoC X d w J bl bs bw nT nR nC rd cd sz x (goT (goF cd rd nR nC n b) (k + 1) (x.1, x.2.1 + 1, x.2.2)) i (i + 1 + b.length + 1) l l u True (r0 + 1) S S2 := by
            refine GoC_tr (l := l) (i := i) hF2 (Nat.le_succ l) (fun z hz2 => ?_) (Nat.le_succ _) ⟨by omega, by show u + 7 ≤ u - 1 + 8 * (x.2.1 + 1 - x.2.1) + (r0 + 1); omega⟩ (by omega) (fun f => ?_) q
            · rw [uS_ne _ _ (Or.inl (by decide)), uS_ne _ _ (Or.inr (by omega))]
            · have := c_mvAgn (g := f + u) hRC (by omega) hz ⟨by omega, hu2⟩ c1 (by omega) hag
              rw [this, show f + (u - 1) + 1 = f + u by omega, show (100000 : Int) - ((u - 1 : Nat) : Int) = 100000 - (u : Int) + 1 by omega]
              rfl
          rw [show m.toNat = k + 1 by omega]
          obtain ⟨⟨g1, g2, g3, g4, g5, g6⟩, g7⟩ := q1
          rcases g7 with ⟨u1, p1, p2, p3, p4, p5⟩ | ⟨p1, p2⟩
          · obtain ⟨S3, q2⟩ := ih (r0 + 1) t hLt (i + 1 + b.length + 1) l u1 S2 (goT (goF cd rd nR nC n b) (k + 1) (x.1, x.2.1 + 1, x.2.2)) (CSt_fr c7 g2) (by omega) hl g1 p4 g5 g6 (by omega) (by omega)
            exact ⟨S3, GoC_ne (GoC_tr (l := l) g2 (Nat.le_refl _) g3 g4 ⟨p1, p3 trivial⟩ (by omega) p5 q2) (fun _ => trivial)⟩
          · rw [goF_full n t _ (by omega)]
            exact ⟨S2, ⟨g1, g2, g3, g4, g5, g6⟩, Or.inr ⟨p1, p2⟩⟩
end GOE
