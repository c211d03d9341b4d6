/-! THE SOONEST WAYS ARE THE SOONEST -/
theorem byF_eq {rd s pl D E : Int → Int} {h r t : Int} (e : E t = D t) : byF rd s pl h E r t = byF rd s pl h D r t := by
  unfold byF
  rw [e]
/-- what holds while towns are settled one by one -/
def DI (rd s pl : Int → Int) (nT nR h t : Int) (D : Int → Int) (Z : Nat) : Prop := DR D ∧ D t = 0 ∧
  (∀ u r, 0 ≤ u → u < nT → Z.testBit u.toNat = true → 0 ≤ r → r < nR → goesF rd r u → byF rd s pl h D r u = -1 ∨ (¬ D (othF rd r u) = -1 ∧ D (othF rd r u) ≤ byF rd s pl h D r u)) ∧
  (∀ u v, 0 ≤ u → u < nT → 0 ≤ v → v < nT → Z.testBit u.toNat = true → Z.testBit v.toNat = false → ¬ D v = -1 → D u ≤ D v) ∧
  (∀ u, 0 ≤ u → u < nT → Z.testBit u.toNat = true → ¬ D u = -1) ∧
  (∀ x, 0 ≤ x → x < nT → x ≠ t → ¬ D x = -1 → ∃ r u, 0 ≤ r ∧ r < nR ∧ 0 ≤ u ∧ u < nT ∧ Z.testBit u.toNat = true ∧ goesF rd r x ∧ othF rd r x = u ∧ goesF rd r u ∧ othF rd r u = x ∧ byF rd s pl h D r u = D x)
theorem othF_oth {nT nR : Int} {rd : Int → Int} (hE : Ends nT nR rd) {r b : Int} (hr : 0 ≤ r ∧ r < nR) (hb : goesF rd r b) : goesF rd r (othF rd r b) ∧ othF rd r (othF rd r b) = b ∧ 0 ≤ othF rd r b ∧ othF rd r b < nT ∧ othF rd r b ≠ b := by
  obtain ⟨e1, e2, e3, e4, e5, -⟩ := hE r hr.1 hr.2
  unfold othF
  by_cases q : rd (4 * r) = b
  · rw [if_pos q]
    refine ⟨Or.inr rfl, ?_, e3, e4, fun z => e5 (q.trans z.symm)⟩
    rw [if_neg e5]
    exact q
  · rw [if_neg q, if_pos rfl]
    have hb : rd (4 * r + 1) = b := by rcases hb with hb | hb; exact absurd hb q; exact hb
    exact ⟨Or.inl rfl, hb, e1, e2, q⟩
/-- the nearest one is nearest -/
theorem nearF_min (nT : Int) {D : Int → Int} (hD : DR D) (Z : Nat) (hT : 0 ≤ nT) : ∀ v, 0 ≤ v → v < nT → Z.testBit v.toNat = false → ¬ D v = -1 → ¬ nearF nT D Z = -1 ∧ D (nearF nT D Z) ≤ D v := by
  have := fold_V (nearG D Z) (fun k b => ∀ v, 0 ≤ v → v < k → Z.testBit v.toNat = false → ¬ D v = -1 → ¬ b = -1 ∧ D b ≤ D v) nT (fun k b h1 h2 h3 v v1 v2 v3 v4 => by
    show ¬ nearG D Z k b = -1 ∧ D (nearG D Z k b) ≤ D v
    unfold nearG
    by_cases q : Z.testBit k.toNat = false ∧ ¬ D k = -1 ∧ (b = -1 ∨ D k < D b)
    · rw [if_pos q]
      refine ⟨by omega, ?_⟩
      by_cases e : v = k
      · rw [e]; exact Int.le_refl _
      · obtain ⟨g1, g2⟩ := h3 v v1 (by omega) v3 v4
        rcases q.2.2 with q | q
        · exact absurd q g1
        · omega
    · rw [if_neg q]
      by_cases e : v = k
      · subst e
        refine ⟨fun z => q ⟨v3, v4, Or.inl z⟩, ?_⟩
        by_cases q2 : D v < D b
        · exact absurd ⟨v3, v4, Or.inr q2⟩ q
        · omega
      · exact h3 v v1 (by omega) v3 v4) nT.toNat 0 (-1) (by omega) (by omega) (fun v v1 v2 => by omega)
  exact this
theorem leave_all {rd s pl D : Int → Int} {nT nR h b : Int} (hE : Ends nT nR rd) (hR : 0 ≤ nR) (hD : DR D) (hb : ¬ D b = -1) : DR (leaveF rd s pl nR h b D) ∧ (∀ x, leaveF rd s pl nR h b D x = D x ∨ ∃ r, 0 ≤ r ∧ r < nR ∧ goesF rd r b ∧ x = othF rd r b ∧ leaveF rd s pl nR h b D x = byF rd s pl h D r b ∧ ¬ byF rd s pl h D r b = -1 ∧ (D x = -1 ∨ byF rd s pl h D r b < D x)) ∧ (∀ x, ¬ D x = -1 → ¬ leaveF rd s pl nR h b D x = -1 ∧ leaveF rd s pl nR h b D x ≤ D x) ∧ leaveF rd s pl nR h b D b = D b ∧ (∀ r, 0 ≤ r → r < nR → goesF rd r b → byF rd s pl h D r b = -1 ∨ (¬ leaveF rd s pl nR h b D (othF rd r b) = -1 ∧ leaveF rd s pl nR h b D (othF rd r b) ≤ byF rd s pl h D r b)) := by
  have := fold_V (relaxF rd s pl h b) (fun k E => DR E ∧ (∀ x, E x = D x ∨ ∃ r, 0 ≤ r ∧ r < nR ∧ goesF rd r b ∧ x = othF rd r b ∧ E x = byF rd s pl h D r b ∧ ¬ byF rd s pl h D r b = -1 ∧ (D x = -1 ∨ byF rd s pl h D r b < D x)) ∧ (∀ x, ¬ D x = -1 → ¬ E x = -1 ∧ E x ≤ D x) ∧ E b = D b ∧ (∀ r, 0 ≤ r → r < k → goesF rd r b → byF rd s pl h D r b = -1 ∨ (¬ E (othF rd r b) = -1 ∧ E (othF rd r b) ≤ byF rd s pl h D r b))) nR (fun k E h1 h2 h3 => by
    obtain ⟨i1, i2, i3, i4, i5⟩ := h3
    have eb : byF rd s pl h E k b = byF rd s pl h D k b := byF_eq i4
    refine ⟨relaxF_DR i1, ?_⟩
    show (∀ x, relaxF rd s pl h b k E x = D x ∨ ∃ r, 0 ≤ r ∧ r < nR ∧ goesF rd r b ∧ x = othF rd r b ∧ relaxF rd s pl h b k E x = byF rd s pl h D r b ∧ ¬ byF rd s pl h D r b = -1 ∧ (D x = -1 ∨ byF rd s pl h D r b < D x)) ∧ (∀ x, ¬ D x = -1 → ¬ relaxF rd s pl h b k E x = -1 ∧ relaxF rd s pl h b k E x ≤ D x) ∧ relaxF rd s pl h b k E b = D b ∧ (∀ r, 0 ≤ r → r < k + 1 → goesF rd r b → byF rd s pl h D r b = -1 ∨ (¬ relaxF rd s pl h b k E (othF rd r b) = -1 ∧ relaxF rd s pl h b k E (othF rd r b) ≤ byF rd s pl h D r b))
    have hbr := byF_r rd s pl h hD k b
    unfold relaxF
    rw [eb]
    by_cases p : goesF rd k b ∧ ¬ byF rd s pl h D k b = -1 ∧ (E (othF rd k b) = -1 ∨ byF rd s pl h D k b < E (othF rd k b))
    · rw [if_pos p]
      obtain ⟨p1, p2, p3⟩ := p
      have ho := othF_oth hE ⟨h1, h2⟩ p1
      have hlt : E (othF rd k b) = -1 → D (othF rd k b) = -1 := fun z => by
        by_cases q : D (othF rd k b) = -1
        · exact q
        · exact absurd z (i3 _ q).1
      refine ⟨fun x => ?_, fun x hx => ?_, ?_, fun r r1 r2 r3 => ?_⟩
      · by_cases e : x = othF rd k b
        · right
          refine ⟨k, h1, h2, p1, e, by rw [e, pu_s], p2, ?_⟩
          rw [e]
          rcases p3 with p3 | p3
          · exact Or.inl (hlt p3)
          · by_cases q : D (othF rd k b) = -1
            · exact Or.inl q
            · exact Or.inr (by have := (i3 _ q).2; omega)
        · rw [pu_o _ e]
          exact i2 x
      · by_cases e : x = othF rd k b
        · subst e
          rw [pu_s]
          have := i3 _ hx
          refine ⟨p2, ?_⟩
          rcases p3 with p3 | p3
          · exact absurd (hlt p3) hx
          · omega
        · rw [pu_o _ e]
          exact i3 x hx
      · rw [pu_o _ (fun z => ho.2.2.2.2 z.symm)]
        exact i4
      · by_cases e : othF rd r b = othF rd k b
        · rw [e, pu_s]
          by_cases e2 : r = k
          · subst e2
            exact Or.inr ⟨p2, Int.le_refl _⟩
          · rcases i5 r r1 (by omega) r3 with g | ⟨g1, g2⟩
            · exact Or.inl g
            · rw [e] at g1 g2
              refine Or.inr ⟨p2, ?_⟩
              rcases p3 with p3 | p3
              · exact absurd p3 g1
              · omega
        · rw [pu_o _ e]
          have e2 : r ≠ k := fun z => e (by rw [z])
          exact i5 r r1 (by omega) r3
    · rw [if_neg p]
      refine ⟨i2, i3, i4, fun r r1 r2 r3 => ?_⟩
      by_cases e2 : r = k
      · subst e2
        by_cases q : byF rd s pl h D r b = -1
        · exact Or.inl q
        · have q1 : ¬ E (othF rd r b) = -1 := fun z => p ⟨r3, q, Or.inl z⟩
          have q2 : ¬ byF rd s pl h D r b < E (othF rd r b) := fun z => p ⟨r3, q, Or.inr z⟩
          exact Or.inr ⟨q1, by omega⟩
      · exact i5 r r1 (by omega) r3) nR.toNat 0 D (by omega) (by omega) ⟨hD, fun x => Or.inl rfl, fun x hx => ⟨hx, Int.le_refl _⟩, rfl, fun r r1 r2 => by omega⟩
  exact this
theorem DI_step {rd s pl D : Int → Int} {nT nR h t : Int} {Z : Nat} (hE : Ends nT nR rd) (hT : 0 ≤ nT) (hR : 0 ≤ nR) (ht : 0 ≤ t ∧ t < nT) (hI : DI rd s pl nT nR h t D Z) (hn : ¬ nearF nT D Z = -1) : DI rd s pl nT nR h t (leaveF rd s pl nR h (nearF nT D Z) D) (Z ||| 2 ^ (nearF nT D Z).toNat) := by
  obtain ⟨i1, i2, i3, i4, i5, i6⟩ := hI
  obtain ⟨b1, b2, b3, b4⟩ : 0 ≤ nearF nT D Z ∧ nearF nT D Z < nT ∧ Z.testBit (nearF nT D Z).toNat = false ∧ ¬ D (nearF nT D Z) = -1 := by
    rcases nearF_r nT D Z hT with g | g
    · exact absurd g hn
    · exact g
  have hmin := nearF_min nT i1 Z hT
  obtain ⟨l1, l2, l3, l4, l5⟩ := leave_all (s := s) (pl := pl) (h := h) hE hR i1 b4
  generalize nearF nT D Z = b at b1 b2 b3 b4 hmin l1 l2 l3 l4 l5
  generalize leaveF rd s pl nR h b D = E at l1 l2 l3 l4 l5
  have hby : ∀ r, byF rd s pl h D r b = -1 ∨ D b < byF rd s pl h D r b := fun r => by
    rcases (byF_r rd s pl h i1 r b).2.2 with g | g
    · exact Or.inl g
    · exact Or.inr g.2
  have set1 : ∀ u, 0 ≤ u → u < nT → Z.testBit u.toNat = true → E u = D u := fun u u1 u2 u3 => by
    rcases l2 u with g | ⟨r, r1, r2, r3, r4, r5, r6, r7⟩
    · exact g
    · have h1 := i4 u b u1 u2 b1 b2 u3 b3 b4
      have h2 := i5 u u1 u2 u3
      rcases hby r with q | q
      · exact absurd q r6
      · rcases r7 with r7 | r7
        · exact absurd r7 h2
        · omega
  have tb : ∀ u, 0 ≤ u → ((Z ||| 2 ^ b.toNat).testBit u.toNat = true ↔ Z.testBit u.toNat = true ∨ u = b) := fun u u1 => by
    rw [testBit_or_pow, Bool.or_eq_true, decide_eq_true_eq]
    constructor
    · intro z; rcases z with z | z
      · exact Or.inl z
      · exact Or.inr (by omega)
    · intro z; rcases z with z | z
      · exact Or.inl z
      · exact Or.inr (by omega)
  have setE : ∀ u, 0 ≤ u → u < nT → (Z ||| 2 ^ b.toNat).testBit u.toNat = true → E u = D u := fun u u1 u2 u3 => by
    rcases (tb u u1).mp u3 with g | g
    · exact set1 u u1 u2 g
    · rw [g]; exact l4
  refine ⟨l1, ?_, fun u r u1 u2 u3 r1 r2 r3 => ?_, fun u v u1 u2 v1 v2 u3 v3 v4 => ?_, fun u u1 u2 u3 => ?_, fun x x1 x2 x3 x4 => ?_⟩
  · rcases l2 t with g | ⟨r, r1, r2, r3, r4, r5, r6, r7⟩
    · rw [g]; exact i2
    · rcases hby r with q | q
      · exact absurd q r6
      · have := i1 b
        rcases r7 with r7 | r7
        · omega
        · omega
  · rw [byF_eq (setE u u1 u2 u3)]
    rcases (tb u u1).mp u3 with g | g
    · rcases i3 u r u1 u2 g r1 r2 r3 with q | ⟨q1, q2⟩
      · exact Or.inl q
      · have := l3 _ q1
        exact Or.inr ⟨this.1, by omega⟩
    · subst g
      exact l5 r r1 r2 r3
  · have hv0 : Z.testBit v.toNat = false := by
      cases e : Z.testBit v.toNat
      · rfl
      · have := (tb v v1).mpr (Or.inl e)
        rw [this] at v3
        cases v3
    have hvb : v ≠ b := fun z => by
      have := (tb v v1).mpr (Or.inr z)
      rw [this] at v3
      cases v3
    rw [setE u u1 u2 u3]
    have hub : D u ≤ D b := by
      rcases (tb u u1).mp u3 with g | g
      · exact i4 u b u1 u2 b1 b2 g b3 b4
      · rw [g]; exact Int.le_refl _
    rcases l2 v with g | ⟨r, r1, r2, r3, r4, r5, r6, r7⟩
    · rw [g] at v4 ⊢
      have := (hmin v v1 v2 hv0 v4).2
      omega
    · rw [r5]
      rcases hby r with q | q
      · exact absurd q r6
      · omega
  · rw [setE u u1 u2 u3]
    rcases (tb u u1).mp u3 with g | g
    · exact i5 u u1 u2 g
    · rw [g]; exact b4
  · rcases l2 x with g | ⟨r, r1, r2, r3, r4, r5, r6, r7⟩
    · rw [g] at x4 ⊢
      obtain ⟨r, u, q1, q2, q3, q4, q5, q6, q7, q8, q9, q10⟩ := i6 x x1 x2 x3 x4
      exact ⟨r, u, q1, q2, q3, q4, (tb u q3).mpr (Or.inl q5), q6, q7, q8, q9, by rw [byF_eq (set1 u q3 q4 q5)]; exact q10⟩
    · obtain ⟨o1, o2, o3, o4, o5⟩ := othF_oth hE ⟨r1, r2⟩ r3
      refine ⟨r, b, r1, r2, b1, b2, (tb b b1).mpr (Or.inr rfl), by rw [r4]; exact o1, by rw [r4]; exact o2, r3, r4.symm, ?_⟩
      rw [byF_eq l4, r5]
/-- what holds of the soonest hours -/
def SI (rd s pl : Int → Int) (nT nR h t : Int) (D : Int → Int) : Prop := DR D ∧ D t = 0 ∧ (∀ u r, 0 ≤ u → u < nT → ¬ D u = -1 → 0 ≤ r → r < nR → goesF rd r u → byF rd s pl h D r u = -1 ∨ (¬ D (othF rd r u) = -1 ∧ D (othF rd r u) ≤ byF rd s pl h D r u)) ∧ (∀ x, 0 ≤ x → x < nT → x ≠ t → ¬ D x = -1 → ∃ r u, 0 ≤ r ∧ r < nR ∧ 0 ≤ u ∧ u < nT ∧ goesF rd r x ∧ othF rd r x = u ∧ byF rd s pl h D r u = D x ∧ ¬ D u = -1 ∧ D u < D x)
theorem DI_end {rd s pl D : Int → Int} {nT nR h t : Int} {Z : Nat} (hI : DI rd s pl nT nR h t D Z) (hT : 0 ≤ nT) (hn : nearF nT D Z = -1) : SI rd s pl nT nR h t D := by
  obtain ⟨i1, i2, i3, i4, i5, i6⟩ := hI
  refine ⟨i1, i2, fun u r u1 u2 u3 r1 r2 r3 => ?_, fun x x1 x2 x3 x4 => ?_⟩
  · have : Z.testBit u.toNat = true := by
      cases e : Z.testBit u.toNat
      · exact absurd hn (nearF_min nT i1 Z hT u u1 u2 e u3).1
      · rfl
    exact i3 u r u1 u2 this r1 r2 r3
  · obtain ⟨r, u, q1, q2, q3, q4, q5, q6, q7, q8, q9, q10⟩ := i6 x x1 x2 x3 x4
    have := byF_r rd s pl h i1 r u
    refine ⟨r, u, q1, q2, q3, q4, q6, q7, q10, i5 u q3 q4 q5, ?_⟩
    rcases this.2.2 with g | g
    · exact absurd (q10 ▸ g) x4
    · rw [← q10]; exact g.2
theorem dij_SI {rd s pl : Int → Int} {nT nR h t : Int} (hE : Ends nT nR rd) (hT : 0 ≤ nT) (hR : 0 ≤ nR) (ht : 0 ≤ t ∧ t < nT) : ∀ (j : Nat) (D : Int → Int) (Z : Nat), DI rd s pl nT nR h t D Z → unS nT Z ≤ j → SI rd s pl nT nR h t (dijN rd s pl nT nR h j D Z)
  | 0, D, Z, hI, hu => by
    have h0 : unS nT Z = 0 := by
      have h1 : 0 ≤ unS nT Z := unS_r Z nT.toNat
      omega
    exact DI_end hI hT (near_none nT D Z hT h0)
  | j + 1, D, Z, hI, hu => by
    unfold dijN
    by_cases q : nearF nT D Z = -1
    · rw [if_pos q]
      exact DI_end hI hT q
    · rw [if_neg q]
      refine dij_SI hE hT hR ht j _ _ (DI_step hE hT hR ht hI q) ?_
      obtain ⟨b1, b2, b3, b4⟩ : 0 ≤ nearF nT D Z ∧ nearF nT D Z < nT ∧ Z.testBit (nearF nT D Z).toNat = false ∧ ¬ D (nearF nT D Z) = -1 := by
        rcases nearF_r nT D Z hT with g | g
        · exact absurd g q
        · exact g
      have := unS_less Z b1 b3 nT.toNat
      rw [if_pos (by omega)] at this
      have e1 : unS nT (Z ||| 2 ^ (nearF nT D Z).toNat) = unS nT Z - 1 := this
      omega
theorem soon_SI {rd s pl : Int → Int} {nT nR h t : Int} (hE : Ends nT nR rd) (hT : 0 ≤ nT) (hR : 0 ≤ nR) (ht : 0 ≤ t ∧ t < nT) : SI rd s pl nT nR h t (soonF rd s pl nT nR t h) := by
  refine dij_SI hE hT hR ht nT.toNat (D0 t) 0 ⟨D0_DR t, pu_s _ _ _, fun u r _ _ u3 => ?_, fun u v _ _ _ _ u3 => ?_, fun u _ _ u3 => ?_, fun x x1 x2 x3 x4 => ?_⟩ ?_
  · rw [Nat.zero_testBit] at u3; cases u3
  · rw [Nat.zero_testBit] at u3; cases u3
  · rw [Nat.zero_testBit] at u3; cases u3
  · exact absurd (pu_o _ x3) x4
  · have := sumZ_r (f := fun t => if Nat.testBit 0 t.toNat = true then (0 : Int) else 1) (a := 0) (b := 1) nT.toNat (fun k _ _ => by show 0 ≤ (if Nat.testBit 0 k.toNat = true then (0 : Int) else 1) ∧ (if Nat.testBit 0 k.toNat = true then (0 : Int) else 1) ≤ 1; split <;> omega)
    have h1 : (nT.toNat : Int) * 1 = nT.toNat := Int.mul_one _
    show sumZ _ nT.toNat ≤ _
    omega
/-- who comes later to a road is not sooner across -/
theorem wk_shift (off a : Int) (m : Nat) : ∀ n : Nat, wk off (a + m) n ≤ wk off a (m + n)
  | 0 => by
    have := wk_mono off a 0 m
    rw [Nat.zero_add] at this
    exact this
  | n + 1 => by
    have ih := wk_shift off a m n
    rw [show m + (n + 1) = m + n + 1 from rfl, wk_succ, wk_succ, show a + (m : Int) + (n : Int) = a + ((m + n : Nat) : Int) by omega]
    omega
theorem tk_fifo {L p off a b : Int} (hab : a ≤ b) (hb : ¬ tk L p off b = -1) (hl : b + tk L p off b ≤ a + 999) : ¬ tk L p off a = -1 ∧ a + tk L p off a ≤ b + tk L p off b := by
  have hr := tkM_r L p off b 999
  have hr : 1 ≤ tk L p off b ∧ tk L p off b ≤ 999 := by
    rcases hr with g | g
    · exact absurd g hb
    · exact g
  have hp : 0 < p := by
    by_cases q : 0 < p
    · exact q
    · exact absurd (if_neg q) hb
  have eb : tk L p off b = srch (fun n => decide (L ≤ p * wk off b n.toNat)) 999 1 := if_pos hp
  have ea : tk L p off a = srch (fun n => decide (L ≤ p * wk off a n.toNat)) 999 1 := if_pos hp
  obtain ⟨m, hm⟩ : ∃ m : Nat, b = a + m := ⟨(b - a).toNat, by omega⟩
  have hP : L ≤ p * wk off b (tk L p off b).toNat := by
    rcases srch_r (P := fun n => decide (L ≤ p * wk off b n.toNat)) 999 1 with g | ⟨-, -, g3, -⟩
    · exact absurd (eb.trans g) hb
    · rw [← eb] at g3
      exact of_decide_eq_true g3
  have hQ : L ≤ p * wk off a (m + (tk L p off b).toNat) := by
    have := wk_shift off a m (tk L p off b).toNat
    rw [← hm] at this
    have := Int.mul_le_mul_of_nonneg_left this (show 0 ≤ p by omega)
    omega
  rcases srch_r (P := fun n => decide (L ≤ p * wk off a n.toNat)) 999 1 with g | ⟨g1, g2, -, g4⟩
  · exfalso
    have := srch_cut (P := fun n => decide (L ≤ p * wk off a n.toNat)) (j := 999) (n := 1) (m + (tk L p off b).toNat) (by omega) (by decide)
    rw [if_pos (Or.inl g)] at this
    -- all fail below; but this one does not
    have hall : ∀ (j : Nat) (n : Int), srch (fun n => decide (L ≤ p * wk off a n.toNat)) j n = -1 → 0 ≤ n → ∀ x, n ≤ x → x < n + j → decide (L ≤ p * wk off a x.toNat) = false := by
      intro j
      induction j with
      | zero => intro n _ _ x h1 h2; omega
      | succ j ih =>
        intro n h0 hn x h1 h2
        have e : srch (fun n => decide (L ≤ p * wk off a n.toNat)) (j + 1) n = if decide (L ≤ p * wk off a n.toNat) = true then n else srch (fun n => decide (L ≤ p * wk off a n.toNat)) j (n + 1) := rfl
        rw [e] at h0
        by_cases q : decide (L ≤ p * wk off a n.toNat) = true
        · rw [if_pos q] at h0
          omega
        · rw [if_neg q] at h0
          by_cases e2 : x = n
          · subst e2
            exact Bool.eq_false_iff.mpr q
          · exact ih (n + 1) h0 (by omega) x (by omega) (by omega)
    have h9 := hall 999 1 g (by decide) (m + (tk L p off b).toNat : Nat) (by omega) (by omega)
    rw [Int.toNat_natCast] at h9
    exact absurd hQ (of_decide_eq_false h9)
  · rw [← ea] at g1 g2 g4
    refine ⟨by omega, ?_⟩
    by_cases q : tk L p off a ≤ (m + (tk L p off b).toNat : Nat)
    · omega
    · have h9 := g4 (m + (tk L p off b).toNat : Nat) (by omega) (by omega)
      rw [Int.toNat_natCast] at h9
      exact absurd hQ (of_decide_eq_false h9)
/-- who sets out sooner is not later there -/
theorem soon_fifo {rd s pl D D' : Int → Int} {nT nR h h' t : Int} (hh : h ≤ h') (hI : SI rd s pl nT nR h t D) (hI' : SI rd s pl nT nR h' t D') (hE : Ends nT nR rd) : ∀ (v : Nat) (x : Int), 0 ≤ x → x < nT → D' x = v → h' + D' x ≤ h + 999 → ¬ D x = -1 ∧ h + D x ≤ h' + D' x := by
  obtain ⟨i1, i2, i3, i4⟩ := hI
  obtain ⟨j1, j2, j3, j4⟩ := hI'
  intro v
  induction v using Nat.strongRecOn with
  | _ v ih =>
    intro x x1 x2 hv hl
    by_cases e : x = t
    · rw [e, i2, j2]
      exact ⟨by decide, by omega⟩
    · obtain ⟨r, u, r1, r2, u1, u2, g1, g2, g3, g4, g5⟩ := j4 x x1 x2 e (by omega)
      have ju := j1 u
      obtain ⟨k1, k2⟩ := ih (D' u).toNat (by omega) u u1 u2 (by omega) (by omega)
      have hgu : goesF rd r u ∧ othF rd r u = x := by
        have := othF_oth hE ⟨r1, r2⟩ g1
        rw [g2] at this
        exact ⟨this.1, this.2.1⟩
      -- the road from u
      have e1 : byF rd s pl h' D' r u = D' u + tk (rd (4 * r + 2)) (pl r) (s r) (h' + D' u) ∧ ¬ tk (rd (4 * r + 2)) (pl r) (s r) (h' + D' u) = -1 := by
        have hne : ¬ byF rd s pl h' D' r u = -1 := by rw [g3]; omega
        unfold byF at hne ⊢
        rw [if_neg g4] at hne ⊢
        by_cases q : tk (rd (4 * r + 2)) (pl r) (s r) (h' + D' u) = -1 ∨ 999 < D' u + tk (rd (4 * r + 2)) (pl r) (s r) (h' + D' u)
        · rw [if_pos q] at hne
          exact absurd rfl hne
        · rw [if_neg q]
          exact ⟨rfl, fun z => q (Or.inl z)⟩
      have iu := i1 u
      obtain ⟨f1, f2⟩ := tk_fifo (L := rd (4 * r + 2)) (p := pl r) (off := s r) (a := h + D u) (b := h' + D' u) k2 e1.2 (by omega)
      have e2 : byF rd s pl h D r u = D u + tk (rd (4 * r + 2)) (pl r) (s r) (h + D u) := by
        unfold byF
        rw [if_neg k1, if_neg]
        omega
      have hpos : 1 ≤ tk (rd (4 * r + 2)) (pl r) (s r) (h + D u) := by
        rcases tkM_r (rd (4 * r + 2)) (pl r) (s r) (h + D u) 999 with q | q
        · exact absurd q f1
        · exact q.1
      rcases i3 u r u1 u2 k1 r1 r2 hgu.1 with q | ⟨q1, q2⟩
      · rw [e2] at q
        omega
      · rw [hgu.2] at q1 q2
        exact ⟨q1, by omega⟩
