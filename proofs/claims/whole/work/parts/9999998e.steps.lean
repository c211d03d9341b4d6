/-! ONE RECORD OF THE SCRIPT -/
def StP (X : Nat × (Nat → Int32)) (dd n : Nat) (w : Bool × Bool × Bool) (S : Hp) (J : Nat → Nat → Int64) (x4 : Int32) (c1 c2 row : Nat) : Prop := ∃ (w' : Bool × Bool × Bool) (S' : Hp) (J' : Nat → Nat → Int64) (a b : Nat), aR X (dd + 60) m_L_law_ (n + 1) row (lwL x4 none none none) (c1, c2) (mkS w (hI S) J) = aR X (dd + 60) m_L_law_ n 1561 (lwL x4 none none none) (c1 + a, c2 + b) (mkS w' (hI S') J') ∧ a ≤ 4 ∧ b ≤ 24 ∧ Rel w' S'
theorem st_feed {X : Nat × (Nat → Int32)} {dd n : Nat} {w : Bool × Bool × Bool} {S : Hp} {J : Nat → Nat → Int64} {x4 : Int32} {c1 c2 : Nat} (hR : Rel w S) (hx : ∀ j : Nat, 1 ≤ j → j ≤ 8 → ¬ ((x4 + nI j) < 0 ∨ X.1 ≤ (x4 + nI j).toNatClampNeg)) (hc : c1 + 4 ≤ 601024 ∧ c2 + 24 ≤ 7293034) : StP X dd n w S J x4 c1 c2 25 := by
  obtain ⟨v, S1, S2, g1, g2, g3⟩ := sim_feed (X := X) (dd := dd) (J := J) hR (X.2 (x4 + (nI 1)).toNatClampNeg) (X.2 (x4 + (nI 2)).toNatClampNeg) (X.2 (x4 + (nI 3)).toNatClampNeg) (X.2 (x4 + (nI 4)).toNatClampNeg) (X.2 (x4 + (nI 5)).toNatClampNeg)
  exact ⟨w, S2, J, 0, 0, lwc_feed hx hc g1 g2, by decide, by decide, g3⟩
theorem st_land {X : Nat × (Nat → Int32)} {dd n : Nat} {w : Bool × Bool × Bool} {S : Hp} {J : Nat → Nat → Int64} {x4 : Int32} {c1 c2 : Nat} (hR : Rel w S) (hx : ∀ j : Nat, 1 ≤ j → j ≤ 8 → ¬ ((x4 + nI j) < 0 ∨ X.1 ≤ (x4 + nI j).toNatClampNeg)) (hc : c1 + 4 ≤ 601024 ∧ c2 + 24 ≤ 7293034) : StP X dd n w S J x4 c1 c2 82 := by
  obtain ⟨p1, e1, i1⟩ := x32 (X.2 (x4 + (nI 1)).toNatClampNeg)
  rcases sim_land (X := X) (dd := dd) (J := J) hR i1 with ⟨v, w1, S1, hw, g1, g2⟩ | ⟨x, S1, g1, hx2, g2⟩
  · obtain ⟨S2, g3, g4, g5⟩ := g2 (uJ J 158 0 v.toInt64)
    rw [← e1] at g1 g3
    exact ⟨w1, S2, _, 1, 6, lwc_land hx hc (hp_land g1) g3 (thr g4) (fun _ => uJ_same J _), by decide, by decide, g5⟩
  · obtain ⟨b, S2, g3, g4, g5⟩ := g2 J
    rw [← e1] at g1 g3
    exact ⟨w, S2, J, 1, 6, lwc_land hx hc (hpx_land hx2 g1) g3 (thr g4) (fun hk => absurd hk (z_ne0 (oneB_r x) hx2)), by decide, by decide, g5⟩
theorem st_law {X : Nat × (Nat → Int32)} {dd n : Nat} {w : Bool × Bool × Bool} {S : Hp} {J : Nat → Nat → Int64} {x4 : Int32} {c1 c2 : Nat} (hR : Rel w S) (hx : ∀ j : Nat, 1 ≤ j → j ≤ 8 → ¬ ((x4 + nI j) < 0 ∨ X.1 ≤ (x4 + nI j).toNatClampNeg)) (hc : c1 + 4 ≤ 601024 ∧ c2 + 24 ≤ 7293034) : StP X dd n w S J x4 c1 c2 117 := by
  obtain ⟨p1, e1, i1⟩ := x32 (X.2 (x4 + (nI 1)).toNatClampNeg)
  rcases sim_law (X := X) (dd := dd) (J := J) hR i1 with ⟨v, w1, S1, hw, g1, g2⟩ | ⟨x, S1, g1, hx2, g2⟩
  · obtain ⟨S2, g3, g4, g5⟩ := g2 (uJ J 158 0 v.toInt64)
    rw [← e1] at g1 g3
    exact ⟨w1, S2, _, 1, 6, lwc_law hx hc (hp_law g1) g3 (thr g4) (fun _ => uJ_same J _), by decide, by decide, g5⟩
  · obtain ⟨b, S2, g3, g4, g5⟩ := g2 J
    rw [← e1] at g1 g3
    exact ⟨w, S2, J, 1, 6, lwc_law hx hc (hpx_law hx2 g1) g3 (thr g4) (fun hk => absurd hk (z_ne0 (oneB_r x) hx2)), by decide, by decide, g5⟩
theorem st_work {X : Nat × (Nat → Int32)} {dd n : Nat} {w : Bool × Bool × Bool} {S : Hp} {J : Nat → Nat → Int64} {x4 : Int32} {c1 c2 : Nat} (hR : Rel w S) (hx : ∀ j : Nat, 1 ≤ j → j ≤ 8 → ¬ ((x4 + nI j) < 0 ∨ X.1 ≤ (x4 + nI j).toNatClampNeg)) (hc : c1 + 4 ≤ 601024 ∧ c2 + 24 ≤ 7293034) : StP X dd n w S J x4 c1 c2 152 := by
  obtain ⟨p1, e1, i1⟩ := x32 (X.2 (x4 + (nI 1)).toNatClampNeg)
  rcases sim_work (X := X) (dd := dd) (J := J) hR i1 with ⟨v, w1, S1, hw, g1, g2⟩ | ⟨x, S1, g1, hx2, g2⟩
  · have hw := hw rfl
    subst hw
    obtain ⟨S2, g3, g4, g5⟩ := g2 (uJ J 158 0 v.toInt64)
    rw [← e1] at g1 g3
    exact ⟨w1, S2, _, 1, 6, lwc_work hx hc (hp_work g1) g3 (thr g4) (fun _ => uJ_same J _), by decide, by decide, g5⟩
  · obtain ⟨b, S2, g3, g4, g5⟩ := g2 J
    rw [← e1] at g1 g3
    exact ⟨w, S2, J, 1, 6, lwc_work hx hc (hpx_work hx2 g1) g3 (thr g4) (fun hk => absurd hk (z_ne0 (oneB_r x) hx2)), by decide, by decide, g5⟩
theorem st_book {X : Nat × (Nat → Int32)} {dd n : Nat} {w : Bool × Bool × Bool} {S : Hp} {J : Nat → Nat → Int64} {x4 : Int32} {c1 c2 : Nat} (hR : Rel w S) (hx : ∀ j : Nat, 1 ≤ j → j ≤ 8 → ¬ ((x4 + nI j) < 0 ∨ X.1 ≤ (x4 + nI j).toNatClampNeg)) (hc : c1 + 4 ≤ 601024 ∧ c2 + 24 ≤ 7293034) : StP X dd n w S J x4 c1 c2 187 := by
  obtain ⟨p1, e1, i1⟩ := x32 (X.2 (x4 + (nI 1)).toNatClampNeg)
  rcases sim_book (X := X) (dd := dd) (J := J) hR i1 with ⟨v, w1, S1, hw, g1, g2⟩ | ⟨x, S1, g1, hx2, g2⟩
  · obtain ⟨S2, g3, g4, g5⟩ := g2 (uJ J 158 0 v.toInt64)
    rw [← e1] at g1 g3
    exact ⟨w1, S2, _, 1, 6, lwc_book hx hc (hp_book g1) g3 (thr g4) (fun _ => uJ_same J _), by decide, by decide, g5⟩
  · obtain ⟨b, S2, g3, g4, g5⟩ := g2 J
    rw [← e1] at g1 g3
    exact ⟨w, S2, J, 1, 6, lwc_book hx hc (hpx_book hx2 g1) g3 (thr g4) (fun hk => absurd hk (z_ne0 (oneB_r x) hx2)), by decide, by decide, g5⟩
theorem st_fault {X : Nat × (Nat → Int32)} {dd n : Nat} {w : Bool × Bool × Bool} {S : Hp} {J : Nat → Nat → Int64} {x4 : Int32} {c1 c2 : Nat} (hR : Rel w S) (hx : ∀ j : Nat, 1 ≤ j → j ≤ 8 → ¬ ((x4 + nI j) < 0 ∨ X.1 ≤ (x4 + nI j).toNatClampNeg)) (hc : c1 + 4 ≤ 601024 ∧ c2 + 24 ≤ 7293034) : StP X dd n w S J x4 c1 c2 222 := by
  obtain ⟨v, S1, S2, g1, g2, g3⟩ := sim_fault (X := X) (dd := dd) (J := J) hR 
  exact ⟨w, S2, J, 0, 0, lwc_fault hx hc g1 g2, by decide, by decide, g3⟩
theorem st_undo {X : Nat × (Nat → Int32)} {dd n : Nat} {w : Bool × Bool × Bool} {S : Hp} {J : Nat → Nat → Int64} {x4 : Int32} {c1 c2 : Nat} (hR : Rel w S) (hx : ∀ j : Nat, 1 ≤ j → j ≤ 8 → ¬ ((x4 + nI j) < 0 ∨ X.1 ≤ (x4 + nI j).toNatClampNeg)) (hc : c1 + 4 ≤ 601024 ∧ c2 + 24 ≤ 7293034) : StP X dd n w S J x4 c1 c2 229 := by
  obtain ⟨v, S1, S2, g1, g2, g3⟩ := sim_undo (X := X) (dd := dd) (J := J) hR 
  exact ⟨w, S2, J, 0, 0, lwc_undo hx hc g1 g2, by decide, by decide, g3⟩
theorem st_told {X : Nat × (Nat → Int32)} {dd n : Nat} {w : Bool × Bool × Bool} {S : Hp} {J : Nat → Nat → Int64} {x4 : Int32} {c1 c2 : Nat} (hR : Rel w S) (hx : ∀ j : Nat, 1 ≤ j → j ≤ 8 → ¬ ((x4 + nI j) < 0 ∨ X.1 ≤ (x4 + nI j).toNatClampNeg)) (hc : c1 + 4 ≤ 601024 ∧ c2 + 24 ≤ 7293034) : StP X dd n w S J x4 c1 c2 236 := by
  obtain ⟨p1, e1, i1⟩ := x32 (X.2 (x4 + (nI 1)).toNatClampNeg)
  rcases sim_told (X := X) (e := dd) (J := J) hR i1 with ⟨v, w1, S1, hw, g1, g2⟩ | ⟨x, S1, g1, hx2, g2⟩
  · have hw := hw rfl
    subst hw
    obtain ⟨S2, g3, g4, g5⟩ := g2 (uJ J 158 0 v.toInt64)
    rw [← e1] at g1 g3
    exact ⟨w1, S2, _, 1, 6, lwc_told hx hc (hp_told g1) g3 (thr g4) (fun _ => uJ_same J _), by decide, by decide, g5⟩
  · obtain ⟨b, S2, g3, g4, g5⟩ := g2 J
    rw [← e1] at g1 g3
    exact ⟨w, S2, J, 1, 6, lwc_told hx hc (hpx_told hx2 g1) g3 (thr g4) (fun hk => absurd hk (z_ne0 (oneB_r x) hx2)), by decide, by decide, g5⟩
theorem st_town {X : Nat × (Nat → Int32)} {dd n : Nat} {w : Bool × Bool × Bool} {S : Hp} {J : Nat → Nat → Int64} {x4 : Int32} {c1 c2 : Nat} (hR : Rel w S) (hx : ∀ j : Nat, 1 ≤ j → j ≤ 8 → ¬ ((x4 + nI j) < 0 ∨ X.1 ≤ (x4 + nI j).toNatClampNeg)) (hc : c1 + 4 ≤ 601024 ∧ c2 + 24 ≤ 7293034) : StP X dd n w S J x4 c1 c2 271 := by
  obtain ⟨p1, e1, i1⟩ := x32 (X.2 (x4 + (nI 1)).toNatClampNeg)
  obtain ⟨p2, e2, i2⟩ := x32 (X.2 (x4 + (nI 2)).toNatClampNeg)
  rcases sim_town (X := X) (e := dd) (J := J) hR i1 i2 with ⟨v, w1, S1, hw, g1, g2⟩ | ⟨x, S1, g1, hx2, g2⟩
  · have hw := hw rfl
    subst hw
    obtain ⟨S2, g3, g4, g5⟩ := g2 (uJ J 158 0 v.toInt64)
    rw [← e1, ← e2] at g1 g3
    exact ⟨w1, S2, _, 2, 12, lwc_town hx hc (hp_town g1) g3 (thr g4) (fun _ => uJ_same J _), by decide, by decide, g5⟩
  · obtain ⟨b, S2, g3, g4, g5⟩ := g2 J
    rw [← e1, ← e2] at g1 g3
    exact ⟨w, S2, J, 2, 12, lwc_town hx hc (hpx_town hx2 g1) g3 (thr g4) (fun hk => absurd hk (z_ne0 (twoA_r x) hx2)), by decide, by decide, g5⟩
theorem st_road {X : Nat × (Nat → Int32)} {dd n : Nat} {w : Bool × Bool × Bool} {S : Hp} {J : Nat → Nat → Int64} {x4 : Int32} {c1 c2 : Nat} (hR : Rel w S) (hx : ∀ j : Nat, 1 ≤ j → j ≤ 8 → ¬ ((x4 + nI j) < 0 ∨ X.1 ≤ (x4 + nI j).toNatClampNeg)) (hc : c1 + 4 ≤ 601024 ∧ c2 + 24 ≤ 7293034) : StP X dd n w S J x4 c1 c2 316 := by
  obtain ⟨p1, e1, i1⟩ := x32 (X.2 (x4 + (nI 1)).toNatClampNeg)
  obtain ⟨p2, e2, i2⟩ := x32 (X.2 (x4 + (nI 2)).toNatClampNeg)
  rcases sim_road (X := X) (e := dd) (J := J) hR i1 i2 with ⟨v, w1, S1, hw, g1, g2⟩ | ⟨x, S1, g1, hx2, g2⟩
  · have hw := hw rfl
    subst hw
    obtain ⟨S2, g3, g4, g5⟩ := g2 (uJ J 158 0 v.toInt64)
    rw [← e1, ← e2] at g1 g3
    exact ⟨w1, S2, _, 2, 12, lwc_road hx hc (hp_road g1) g3 (thr g4) (fun _ => uJ_same J _), by decide, by decide, g5⟩
  · obtain ⟨b, S2, g3, g4, g5⟩ := g2 J
    rw [← e1, ← e2] at g1 g3
    exact ⟨w, S2, J, 2, 12, lwc_road hx hc (hpx_road hx2 g1) g3 (thr g4) (fun hk => absurd hk (z_ne0 (twoA_r x) hx2)), by decide, by decide, g5⟩
theorem st_carter {X : Nat × (Nat → Int32)} {dd n : Nat} {w : Bool × Bool × Bool} {S : Hp} {J : Nat → Nat → Int64} {x4 : Int32} {c1 c2 : Nat} (hR : Rel w S) (hx : ∀ j : Nat, 1 ≤ j → j ≤ 8 → ¬ ((x4 + nI j) < 0 ∨ X.1 ≤ (x4 + nI j).toNatClampNeg)) (hc : c1 + 4 ≤ 601024 ∧ c2 + 24 ≤ 7293034) : StP X dd n w S J x4 c1 c2 361 := by
  obtain ⟨p1, e1, i1⟩ := x32 (X.2 (x4 + (nI 1)).toNatClampNeg)
  obtain ⟨p2, e2, i2⟩ := x32 (X.2 (x4 + (nI 2)).toNatClampNeg)
  rcases sim_carter (X := X) (e := dd) (J := J) hR i1 i2 with ⟨v, w1, S1, hw, g1, g2⟩ | ⟨x, S1, g1, hx2, g2⟩
  · have hw := hw rfl
    subst hw
    obtain ⟨S2, g3, g4, g5⟩ := g2 (uJ J 158 0 v.toInt64)
    rw [← e1, ← e2] at g1 g3
    exact ⟨w1, S2, _, 2, 12, lwc_carter hx hc (hp_carter g1) g3 (thr g4) (fun _ => uJ_same J _), by decide, by decide, g5⟩
  · obtain ⟨b, S2, g3, g4, g5⟩ := g2 J
    rw [← e1, ← e2] at g1 g3
    exact ⟨w, S2, J, 2, 12, lwc_carter hx hc (hpx_carter hx2 g1) g3 (thr g4) (fun hk => absurd hk (z_ne0 (twoA_r x) hx2)), by decide, by decide, g5⟩
theorem st_would {X : Nat × (Nat → Int32)} {dd n : Nat} {w : Bool × Bool × Bool} {S : Hp} {J : Nat → Nat → Int64} {x4 : Int32} {c1 c2 : Nat} (hR : Rel w S) (hx : ∀ j : Nat, 1 ≤ j → j ≤ 8 → ¬ ((x4 + nI j) < 0 ∨ X.1 ≤ (x4 + nI j).toNatClampNeg)) (hc : c1 + 4 ≤ 601024 ∧ c2 + 24 ≤ 7293034) : StP X dd n w S J x4 c1 c2 406 := by
  obtain ⟨p1, e1, i1⟩ := x32 (X.2 (x4 + (nI 1)).toNatClampNeg)
  obtain ⟨p2, e2, i2⟩ := x32 (X.2 (x4 + (nI 2)).toNatClampNeg)
  obtain ⟨p3, e3, i3⟩ := x32 (X.2 (x4 + (nI 3)).toNatClampNeg)
  obtain ⟨p4, e4, i4⟩ := x32 (X.2 (x4 + (nI 4)).toNatClampNeg)
  obtain ⟨p5, e5, i5⟩ := x32 (X.2 (x4 + (nI 5)).toNatClampNeg)
  obtain ⟨p6, e6, i6⟩ := x32 (X.2 (x4 + (nI 6)).toNatClampNeg)
  obtain ⟨p7, e7, i7⟩ := x32 (X.2 (x4 + (nI 7)).toNatClampNeg)
  obtain ⟨p8, e8, i8⟩ := x32 (X.2 (x4 + (nI 8)).toNatClampNeg)
  rcases sim_would (X := X) (e := dd) (J := J) hR i1 i2 i3 i4 i5 i6 i7 i8 with ⟨v, w1, S1, hw, g1, g2⟩ | ⟨x, S1, g1, hx2, g2⟩
  · have hw := hw rfl
    subst hw
    obtain ⟨S2, g3, g4, g5⟩ := g2 (uJ J 158 0 v.toInt64)
    rw [← e1, ← e2, ← e3, ← e4, ← e5, ← e6, ← e7, ← e8] at g1 g3
    exact ⟨w1, S2, _, 4, 24, lwc_would hx hc (hp_would g1) g3 (thr g4) (fun _ => uJ_same J _), by decide, by decide, g5⟩
  · obtain ⟨b, S2, g3, g4, g5⟩ := g2 J
    rw [← e1, ← e2, ← e3, ← e4, ← e5, ← e6, ← e7, ← e8] at g1 g3
    exact ⟨w, S2, J, 4, 24, lwc_would hx hc (hpx_would hx2 g1) g3 (thr g4) (fun hk => absurd hk (z_ne0 (oneB_r x) hx2)), by decide, by decide, g5⟩
theorem st_lasts {X : Nat × (Nat → Int32)} {dd n : Nat} {w : Bool × Bool × Bool} {S : Hp} {J : Nat → Nat → Int64} {x4 : Int32} {c1 c2 : Nat} (hR : Rel w S) (hx : ∀ j : Nat, 1 ≤ j → j ≤ 8 → ¬ ((x4 + nI j) < 0 ∨ X.1 ≤ (x4 + nI j).toNatClampNeg)) (hc : c1 + 4 ≤ 601024 ∧ c2 + 24 ≤ 7293034) : StP X dd n w S J x4 c1 c2 511 := by
  obtain ⟨p1, e1, i1⟩ := x32 (X.2 (x4 + (nI 1)).toNatClampNeg)
  obtain ⟨p2, e2, i2⟩ := x32 (X.2 (x4 + (nI 2)).toNatClampNeg)
  rcases sim_lasts (X := X) (e := dd) (J := J) hR i1 i2 with ⟨v, w1, S1, hw, g1, g2⟩ | ⟨x, S1, g1, hx2, g2⟩
  · have hw := hw rfl
    subst hw
    obtain ⟨S2, g3, g4, g5⟩ := g2 (uJ J 158 0 v.toInt64)
    rw [← e1, ← e2] at g1 g3
    exact ⟨w1, S2, _, 2, 12, lwc_lasts hx hc (hp_lasts g1) g3 (thr g4) (fun _ => uJ_same J _), by decide, by decide, g5⟩
  · obtain ⟨b, S2, g3, g4, g5⟩ := g2 J
    rw [← e1, ← e2] at g1 g3
    exact ⟨w, S2, J, 2, 12, lwc_lasts hx hc (hpx_lasts hx2 g1) g3 (thr g4) (fun hk => absurd hk (z_ne0 (twoA_r x) hx2)), by decide, by decide, g5⟩
theorem st_soon {X : Nat × (Nat → Int32)} {dd n : Nat} {w : Bool × Bool × Bool} {S : Hp} {J : Nat → Nat → Int64} {x4 : Int32} {c1 c2 : Nat} (hR : Rel w S) (hx : ∀ j : Nat, 1 ≤ j → j ≤ 8 → ¬ ((x4 + nI j) < 0 ∨ X.1 ≤ (x4 + nI j).toNatClampNeg)) (hc : c1 + 4 ≤ 601024 ∧ c2 + 24 ≤ 7293034) : StP X dd n w S J x4 c1 c2 556 := by
  obtain ⟨p1, e1, i1⟩ := x32 (X.2 (x4 + (nI 1)).toNatClampNeg)
  obtain ⟨p2, e2, i2⟩ := x32 (X.2 (x4 + (nI 2)).toNatClampNeg)
  obtain ⟨p3, e3, i3⟩ := x32 (X.2 (x4 + (nI 3)).toNatClampNeg)
  rcases sim_soon (X := X) (e := dd) (J := J) hR i1 i2 i3 with ⟨v, w1, S1, hw, g1, g2⟩ | ⟨x, S1, g1, hx2, g2⟩
  · have hw := hw rfl
    subst hw
    obtain ⟨S2, g3, g4, g5⟩ := g2 (uJ J 158 0 v.toInt64)
    rw [← e1, ← e2, ← e3] at g1 g3
    exact ⟨w1, S2, _, 3, 18, lwc_soon hx hc (hp_soon g1) g3 (thr g4) (fun _ => uJ_same J _), by decide, by decide, g5⟩
  · obtain ⟨b, S2, g3, g4, g5⟩ := g2 J
    rw [← e1, ← e2, ← e3] at g1 g3
    exact ⟨w, S2, J, 3, 18, lwc_soon hx hc (hpx_soon hx2 g1) g3 (thr g4) (fun hk => absurd hk (z_ne0 (twoA_r x) hx2)), by decide, by decide, g5⟩
theorem st_way {X : Nat × (Nat → Int32)} {dd n : Nat} {w : Bool × Bool × Bool} {S : Hp} {J : Nat → Nat → Int64} {x4 : Int32} {c1 c2 : Nat} (hR : Rel w S) (hx : ∀ j : Nat, 1 ≤ j → j ≤ 8 → ¬ ((x4 + nI j) < 0 ∨ X.1 ≤ (x4 + nI j).toNatClampNeg)) (hc : c1 + 4 ≤ 601024 ∧ c2 + 24 ≤ 7293034) : StP X dd n w S J x4 c1 c2 611 := by
  obtain ⟨p1, e1, i1⟩ := x32 (X.2 (x4 + (nI 1)).toNatClampNeg)
  obtain ⟨p2, e2, i2⟩ := x32 (X.2 (x4 + (nI 2)).toNatClampNeg)
  obtain ⟨p3, e3, i3⟩ := x32 (X.2 (x4 + (nI 3)).toNatClampNeg)
  obtain ⟨p4, e4, i4⟩ := x32 (X.2 (x4 + (nI 4)).toNatClampNeg)
  rcases sim_way (X := X) (e := dd) (J := J) hR i1 i2 i3 i4 with ⟨v, w1, S1, hw, g1, g2⟩ | ⟨x, S1, g1, hx2, g2⟩
  · have hw := hw rfl
    subst hw
    obtain ⟨S2, g3, g4, g5⟩ := g2 (uJ J 158 0 v.toInt64)
    rw [← e1, ← e2, ← e3, ← e4] at g1 g3
    exact ⟨w1, S2, _, 3, 18, lwc_way hx hc (hp_way g1) g3 (thr g4) (fun _ => uJ_same J _), by decide, by decide, g5⟩
  · obtain ⟨b, S2, g3, g4, g5⟩ := g2 J
    rw [← e1, ← e2, ← e3, ← e4] at g1 g3
    exact ⟨w, S2, J, 3, 18, lwc_way hx hc (hpx_way hx2 g1) g3 (thr g4) (fun hk => absurd hk (z_ne0 (twoA_r x) hx2)), by decide, by decide, g5⟩
theorem st_latest {X : Nat × (Nat → Int32)} {dd n : Nat} {w : Bool × Bool × Bool} {S : Hp} {J : Nat → Nat → Int64} {x4 : Int32} {c1 c2 : Nat} (hR : Rel w S) (hx : ∀ j : Nat, 1 ≤ j → j ≤ 8 → ¬ ((x4 + nI j) < 0 ∨ X.1 ≤ (x4 + nI j).toNatClampNeg)) (hc : c1 + 4 ≤ 601024 ∧ c2 + 24 ≤ 7293034) : StP X dd n w S J x4 c1 c2 676 := by
  obtain ⟨p1, e1, i1⟩ := x32 (X.2 (x4 + (nI 1)).toNatClampNeg)
  obtain ⟨p2, e2, i2⟩ := x32 (X.2 (x4 + (nI 2)).toNatClampNeg)
  obtain ⟨p3, e3, i3⟩ := x32 (X.2 (x4 + (nI 3)).toNatClampNeg)
  obtain ⟨p4, e4, i4⟩ := x32 (X.2 (x4 + (nI 4)).toNatClampNeg)
  rcases sim_latest (X := X) (e := dd) (J := J) hR i1 i2 i3 i4 with ⟨v, w1, S1, hw, g1, g2⟩ | ⟨x, S1, g1, hx2, g2⟩
  · have hw := hw rfl
    subst hw
    obtain ⟨S2, g3, g4, g5⟩ := g2 (uJ J 158 0 v.toInt64)
    rw [← e1, ← e2, ← e3, ← e4] at g1 g3
    exact ⟨w1, S2, _, 3, 18, lwc_latest hx hc (hp_latest g1) g3 (thr g4) (fun _ => uJ_same J _), by decide, by decide, g5⟩
  · obtain ⟨b, S2, g3, g4, g5⟩ := g2 J
    rw [← e1, ← e2, ← e3, ← e4] at g1 g3
    exact ⟨w, S2, J, 3, 18, lwc_latest hx hc (hpx_latest hx2 g1) g3 (thr g4) (fun hk => absurd hk (z_ne0 (twoA_r x) hx2)), by decide, by decide, g5⟩
theorem st_day {X : Nat × (Nat → Int32)} {dd n : Nat} {w : Bool × Bool × Bool} {S : Hp} {J : Nat → Nat → Int64} {x4 : Int32} {c1 c2 : Nat} (hR : Rel w S) (hx : ∀ j : Nat, 1 ≤ j → j ≤ 8 → ¬ ((x4 + nI j) < 0 ∨ X.1 ≤ (x4 + nI j).toNatClampNeg)) (hc : c1 + 4 ≤ 601024 ∧ c2 + 24 ≤ 7293034) : StP X dd n w S J x4 c1 c2 741 := by
  obtain ⟨p1, e1, i1⟩ := x32 (X.2 (x4 + (nI 1)).toNatClampNeg)
  obtain ⟨p2, e2, i2⟩ := x32 (X.2 (x4 + (nI 2)).toNatClampNeg)
  obtain ⟨p3, e3, i3⟩ := x32 (X.2 (x4 + (nI 3)).toNatClampNeg)
  rcases sim_day (X := X) (e := dd) (J := J) hR i1 i2 i3 with ⟨v, w1, S1, hw, g1, g2⟩ | ⟨x, S1, g1, hx2, g2⟩
  · have hw := hw rfl
    subst hw
    obtain ⟨S2, g3, g4, g5⟩ := g2 (uJ J 158 0 v.toInt64)
    rw [← e1, ← e2, ← e3] at g1 g3
    exact ⟨w1, S2, _, 3, 18, lwc_day hx hc (hp_day g1) g3 (thr g4) (fun _ => uJ_same J _), by decide, by decide, g5⟩
  · obtain ⟨b, S2, g3, g4, g5⟩ := g2 J
    rw [← e1, ← e2, ← e3] at g1 g3
    exact ⟨w, S2, J, 3, 18, lwc_day hx hc (hpx_day hx2 g1) g3 (thr g4) (fun hk => absurd hk (z_ne0 (twoA_r x) hx2)), by decide, by decide, g5⟩
theorem st_farthest {X : Nat × (Nat → Int32)} {dd n : Nat} {w : Bool × Bool × Bool} {S : Hp} {J : Nat → Nat → Int64} {x4 : Int32} {c1 c2 : Nat} (hR : Rel w S) (hx : ∀ j : Nat, 1 ≤ j → j ≤ 8 → ¬ ((x4 + nI j) < 0 ∨ X.1 ≤ (x4 + nI j).toNatClampNeg)) (hc : c1 + 4 ≤ 601024 ∧ c2 + 24 ≤ 7293034) : StP X dd n w S J x4 c1 c2 796 := by
  obtain ⟨p1, e1, i1⟩ := x32 (X.2 (x4 + (nI 1)).toNatClampNeg)
  rcases sim_farthest (X := X) (e := dd) (J := J) hR i1 with ⟨v, w1, S1, hw, g1, g2⟩ | ⟨x, S1, g1, hx2, g2⟩
  · have hw := hw rfl
    subst hw
    obtain ⟨S2, g3, g4, g5⟩ := g2 (uJ J 158 0 v.toInt64)
    rw [← e1] at g1 g3
    exact ⟨w1, S2, _, 1, 6, lwc_farthest hx hc (hp_farthest g1) g3 (thr g4) (fun _ => uJ_same J _), by decide, by decide, g5⟩
  · obtain ⟨b, S2, g3, g4, g5⟩ := g2 J
    rw [← e1] at g1 g3
    exact ⟨w, S2, J, 1, 6, lwc_farthest hx hc (hpx_farthest hx2 g1) g3 (thr g4) (fun hk => absurd hk (z_ne0 (oneB_r x) hx2)), by decide, by decide, g5⟩
theorem st_joined {X : Nat × (Nat → Int32)} {dd n : Nat} {w : Bool × Bool × Bool} {S : Hp} {J : Nat → Nat → Int64} {x4 : Int32} {c1 c2 : Nat} (hR : Rel w S) (hx : ∀ j : Nat, 1 ≤ j → j ≤ 8 → ¬ ((x4 + nI j) < 0 ∨ X.1 ≤ (x4 + nI j).toNatClampNeg)) (hc : c1 + 4 ≤ 601024 ∧ c2 + 24 ≤ 7293034) : StP X dd n w S J x4 c1 c2 831 := by
  obtain ⟨p1, e1, i1⟩ := x32 (X.2 (x4 + (nI 1)).toNatClampNeg)
  rcases sim_joined (X := X) (e := dd) (J := J) hR i1 with ⟨v, w1, S1, hw, g1, g2⟩ | ⟨x, S1, g1, hx2, g2⟩
  · have hw := hw rfl
    subst hw
    obtain ⟨S2, g3, g4, g5⟩ := g2 (uJ J 158 0 (if v = 0 then lN 0 else lN 1))
    rw [← e1] at g1 g3
    exact ⟨w1, S2, _, 1, 6, lwc_joined hx hc (hp_joined g1) g3 (thr g4) (fun _ => uJ_same J _), by decide, by decide, g5⟩
  · obtain ⟨b, S2, g3, g4, g5⟩ := g2 J
    rw [← e1] at g1 g3
    exact ⟨w, S2, J, 1, 6, lwc_joined hx hc (hpx_joined hx2 g1) g3 (thr g4) (fun hk => absurd hk (z_ne0 (oneB_r x) hx2)), by decide, by decide, g5⟩
theorem st_part {X : Nat × (Nat → Int32)} {dd n : Nat} {w : Bool × Bool × Bool} {S : Hp} {J : Nat → Nat → Int64} {x4 : Int32} {c1 c2 : Nat} (hR : Rel w S) (hx : ∀ j : Nat, 1 ≤ j → j ≤ 8 → ¬ ((x4 + nI j) < 0 ∨ X.1 ≤ (x4 + nI j).toNatClampNeg)) (hc : c1 + 4 ≤ 601024 ∧ c2 + 24 ≤ 7293034) : StP X dd n w S J x4 c1 c2 869 := by
  obtain ⟨p1, e1, i1⟩ := x32 (X.2 (x4 + (nI 1)).toNatClampNeg)
  obtain ⟨p2, e2, i2⟩ := x32 (X.2 (x4 + (nI 2)).toNatClampNeg)
  obtain ⟨p3, e3, i3⟩ := x32 (X.2 (x4 + (nI 3)).toNatClampNeg)
  rcases sim_part (X := X) (e := dd) (J := J) hR i1 i2 i3 with ⟨v, w1, S1, hw, g1, g2⟩ | ⟨x, S1, g1, hx2, g2⟩
  · have hw := hw rfl
    subst hw
    obtain ⟨S2, g3, g4, g5⟩ := g2 (uJ J 158 0 v.toInt64)
    rw [← e1, ← e2, ← e3] at g1 g3
    exact ⟨w1, S2, _, 3, 18, lwc_part hx hc (hp_part g1) g3 (thr g4) (fun _ => uJ_same J _), by decide, by decide, g5⟩
  · obtain ⟨b, S2, g3, g4, g5⟩ := g2 J
    rw [← e1, ← e2, ← e3] at g1 g3
    exact ⟨w, S2, J, 3, 18, lwc_part hx hc (hpx_part hx2 g1) g3 (thr g4) (fun hk => absurd hk (z_ne0 (twoA_r x) hx2)), by decide, by decide, g5⟩
theorem st_mend {X : Nat × (Nat → Int32)} {dd n : Nat} {w : Bool × Bool × Bool} {S : Hp} {J : Nat → Nat → Int64} {x4 : Int32} {c1 c2 : Nat} (hR : Rel w S) (hx : ∀ j : Nat, 1 ≤ j → j ≤ 8 → ¬ ((x4 + nI j) < 0 ∨ X.1 ≤ (x4 + nI j).toNatClampNeg)) (hc : c1 + 4 ≤ 601024 ∧ c2 + 24 ≤ 7293034) : StP X dd n w S J x4 c1 c2 924 := by
  obtain ⟨p1, e1, i1⟩ := x32 (X.2 (x4 + (nI 1)).toNatClampNeg)
  rcases sim_mend (X := X) (e := dd) (J := J) hR i1 with ⟨v, w1, S1, hw, g1, g2⟩ | ⟨x, S1, g1, hx2, g2⟩
  · have hw := hw rfl
    subst hw
    obtain ⟨S2, g3, g4, g5⟩ := g2 (uJ J 158 0 v.toInt64)
    rw [← e1] at g1 g3
    exact ⟨w1, S2, _, 1, 6, lwc_mend hx hc (hp_mend g1) g3 (thr g4) (fun _ => uJ_same J _), by decide, by decide, g5⟩
  · obtain ⟨b, S2, g3, g4, g5⟩ := g2 J
    rw [← e1] at g1 g3
    exact ⟨w, S2, J, 1, 6, lwc_mend hx hc (hpx_mend hx2 g1) g3 (thr g4) (fun hk => absurd hk (z_ne0 (oneB_r x) hx2)), by decide, by decide, g5⟩
theorem st_picnic {X : Nat × (Nat → Int32)} {dd n : Nat} {w : Bool × Bool × Bool} {S : Hp} {J : Nat → Nat → Int64} {x4 : Int32} {c1 c2 : Nat} (hR : Rel w S) (hx : ∀ j : Nat, 1 ≤ j → j ≤ 8 → ¬ ((x4 + nI j) < 0 ∨ X.1 ≤ (x4 + nI j).toNatClampNeg)) (hc : c1 + 4 ≤ 601024 ∧ c2 + 24 ≤ 7293034) : StP X dd n w S J x4 c1 c2 959 := by
  obtain ⟨p1, e1, i1⟩ := x32 (X.2 (x4 + (nI 1)).toNatClampNeg)
  rcases sim_picnic (X := X) (e := dd) (J := J) hR i1 with ⟨v, w1, S1, hw, g1, g2⟩ | ⟨x, S1, g1, hx2, g2⟩
  · have hw := hw rfl
    subst hw
    obtain ⟨S2, g3, g4, g5⟩ := g2 (uJ J 158 0 v.toInt64)
    rw [← e1] at g1 g3
    exact ⟨w1, S2, _, 1, 6, lwc_picnic hx hc (hp_picnic g1) g3 (thr g4) (fun _ => uJ_same J _), by decide, by decide, g5⟩
  · obtain ⟨b, S2, g3, g4, g5⟩ := g2 J
    rw [← e1] at g1 g3
    exact ⟨w, S2, J, 1, 6, lwc_picnic hx hc (hpx_picnic hx2 g1) g3 (thr g4) (fun hk => absurd hk (z_ne0 (oneB_r x) hx2)), by decide, by decide, g5⟩
theorem st_fits {X : Nat × (Nat → Int32)} {dd n : Nat} {w : Bool × Bool × Bool} {S : Hp} {J : Nat → Nat → Int64} {x4 : Int32} {c1 c2 : Nat} (hR : Rel w S) (hx : ∀ j : Nat, 1 ≤ j → j ≤ 8 → ¬ ((x4 + nI j) < 0 ∨ X.1 ≤ (x4 + nI j).toNatClampNeg)) (hc : c1 + 4 ≤ 601024 ∧ c2 + 24 ≤ 7293034) : StP X dd n w S J x4 c1 c2 994 := by
  obtain ⟨p1, e1, i1⟩ := x32 (X.2 (x4 + (nI 1)).toNatClampNeg)
  rcases sim_fits (X := X) (e := dd) (J := J) hR i1 with ⟨v, w1, S1, hw, g1, g2⟩ | ⟨x, S1, g1, hx2, g2⟩
  · have hw := hw rfl
    subst hw
    obtain ⟨S2, g3, g4, g5⟩ := g2 (uJ J 158 0 v.toInt64)
    rw [← e1] at g1 g3
    exact ⟨w1, S2, _, 1, 6, lwc_fits hx hc (hp_fits g1) g3 (thr g4) (fun _ => uJ_same J _), by decide, by decide, g5⟩
  · obtain ⟨b, S2, g3, g4, g5⟩ := g2 J
    rw [← e1] at g1 g3
    exact ⟨w, S2, J, 1, 6, lwc_fits hx hc (hpx_fits hx2 g1) g3 (thr g4) (fun hk => absurd hk (z_ne0 (oneN_r x) hx2)), by decide, by decide, g5⟩
theorem st_look {X : Nat × (Nat → Int32)} {dd n : Nat} {w : Bool × Bool × Bool} {S : Hp} {J : Nat → Nat → Int64} {x4 : Int32} {c1 c2 : Nat} (hR : Rel w S) (hx : ∀ j : Nat, 1 ≤ j → j ≤ 8 → ¬ ((x4 + nI j) < 0 ∨ X.1 ≤ (x4 + nI j).toNatClampNeg)) (hc : c1 + 4 ≤ 601024 ∧ c2 + 24 ≤ 7293034) : StP X dd n w S J x4 c1 c2 1029 := by
  obtain ⟨p1, e1, i1⟩ := x32 (X.2 (x4 + (nI 1)).toNatClampNeg)
  obtain ⟨p2, e2, i2⟩ := x32 (X.2 (x4 + (nI 2)).toNatClampNeg)
  rcases sim_look (X := X) (e := dd) (J := J) hR i1 i2 with ⟨v, w1, S1, hw, g1, g2⟩ | ⟨x, S1, g1, hx2, g2⟩
  · have hw := hw rfl
    subst hw
    obtain ⟨S2, g3, g4, g5⟩ := g2 (uJ J 158 0 v.toInt64)
    rw [← e1, ← e2] at g1 g3
    exact ⟨w1, S2, _, 2, 12, lwc_look hx hc (hp_look g1) g3 (thr g4) (fun _ => uJ_same J _), by decide, by decide, g5⟩
  · obtain ⟨b, S2, g3, g4, g5⟩ := g2 J
    rw [← e1, ← e2] at g1 g3
    exact ⟨w, S2, J, 2, 12, lwc_look hx hc (hpx_look hx2 g1) g3 (thr g4) (fun hk => absurd hk (z_ne0 (twoA_r x) hx2)), by decide, by decide, g5⟩
theorem st_inn {X : Nat × (Nat → Int32)} {dd n : Nat} {w : Bool × Bool × Bool} {S : Hp} {J : Nat → Nat → Int64} {x4 : Int32} {c1 c2 : Nat} (hR : Rel w S) (hx : ∀ j : Nat, 1 ≤ j → j ≤ 8 → ¬ ((x4 + nI j) < 0 ∨ X.1 ≤ (x4 + nI j).toNatClampNeg)) (hc : c1 + 4 ≤ 601024 ∧ c2 + 24 ≤ 7293034) : StP X dd n w S J x4 c1 c2 1074 := by
  obtain ⟨p1, e1, i1⟩ := x32 (X.2 (x4 + (nI 1)).toNatClampNeg)
  obtain ⟨p2, e2, i2⟩ := x32 (X.2 (x4 + (nI 2)).toNatClampNeg)
  obtain ⟨p3, e3, i3⟩ := x32 (X.2 (x4 + (nI 3)).toNatClampNeg)
  rcases sim_inn (X := X) (e := dd) (J := J) hR i1 i2 i3 with ⟨v, w1, S1, hw, g1, g2⟩ | ⟨x, S1, g1, hx2, g2⟩
  · have hw := hw rfl
    subst hw
    obtain ⟨S2, g3, g4, g5⟩ := g2 (uJ J 158 0 v.toInt64)
    rw [← e1, ← e2, ← e3] at g1 g3
    exact ⟨w1, S2, _, 1, 6, lwc_inn hx hc (hp_inn g1) g3 (thr g4) (fun _ => uJ_same J _), by decide, by decide, g5⟩
  · obtain ⟨b, S2, g3, g4, g5⟩ := g2 J
    rw [← e1, ← e2, ← e3] at g1 g3
    exact ⟨w, S2, J, 1, 6, lwc_inn hx hc (hpx_inn hx2 g1) g3 (thr g4) (fun hk => absurd hk (z_ne0 (oneB_r x) hx2)), by decide, by decide, g5⟩
theorem st_luck {X : Nat × (Nat → Int32)} {dd n : Nat} {w : Bool × Bool × Bool} {S : Hp} {J : Nat → Nat → Int64} {x4 : Int32} {c1 c2 : Nat} (hR : Rel w S) (hx : ∀ j : Nat, 1 ≤ j → j ≤ 8 → ¬ ((x4 + nI j) < 0 ∨ X.1 ≤ (x4 + nI j).toNatClampNeg)) (hc : c1 + 4 ≤ 601024 ∧ c2 + 24 ≤ 7293034) : StP X dd n w S J x4 c1 c2 1129 := by
  obtain ⟨p1, e1, i1⟩ := x32 (X.2 (x4 + (nI 1)).toNatClampNeg)
  obtain ⟨p2, e2, i2⟩ := x32 (X.2 (x4 + (nI 2)).toNatClampNeg)
  obtain ⟨p3, e3, i3⟩ := x32 (X.2 (x4 + (nI 3)).toNatClampNeg)
  obtain ⟨p4, e4, i4⟩ := x32 (X.2 (x4 + (nI 4)).toNatClampNeg)
  rcases sim_luck (X := X) (dd := dd) (J := J) hR i1 i2 i3 i4 with ⟨v, g1, g2⟩ | ⟨S1, g1, g2⟩
  · obtain ⟨S2, J3, g3, j1, g4, g5⟩ := g2 (uJ J 158 0 v)
    rw [← e1, ← e2, ← e3, ← e4] at g1 g3
    exact ⟨w, S2, J3, 1, 6, lwc_luck hx hc (hp_luck g1) g3 (thr g4) (fun _ => (congrFun j1 0).trans (uJ_same J _)), by decide, by decide, g5⟩
  · obtain ⟨b, S2, g3, g4, g5⟩ := g2 J
    rw [← e1, ← e2, ← e3, ← e4] at g1 g3
    exact ⟨w, S2, J, 1, 6, lwc_luck hx hc (hpx_luck g1) g3 (thr g4) (fun hk => absurd hk (z_ne0 (by decide) (by decide))), by decide, by decide, g5⟩
theorem st_oats {X : Nat × (Nat → Int32)} {dd n : Nat} {w : Bool × Bool × Bool} {S : Hp} {J : Nat → Nat → Int64} {x4 : Int32} {c1 c2 : Nat} (hR : Rel w S) (hx : ∀ j : Nat, 1 ≤ j → j ≤ 8 → ¬ ((x4 + nI j) < 0 ∨ X.1 ≤ (x4 + nI j).toNatClampNeg)) (hc : c1 + 4 ≤ 601024 ∧ c2 + 24 ≤ 7293034) : StP X dd n w S J x4 c1 c2 1193 := by
  obtain ⟨p1, e1, i1⟩ := x32 (X.2 (x4 + (nI 1)).toNatClampNeg)
  obtain ⟨p2, e2, i2⟩ := x32 (X.2 (x4 + (nI 2)).toNatClampNeg)
  obtain ⟨p3, e3, i3⟩ := x32 (X.2 (x4 + (nI 3)).toNatClampNeg)
  rcases sim_oats (X := X) (e := dd) (J := J) hR i1 i2 i3 with ⟨v, w1, S1, hw, g1, g2⟩ | ⟨x, S1, g1, hx2, g2⟩
  · have hw := hw rfl
    subst hw
    obtain ⟨S2, g3, g4, g5⟩ := g2 (uJ J 158 0 v.toInt64)
    rw [← e1, ← e2, ← e3] at g1 g3
    exact ⟨w1, S2, _, 2, 12, lwc_oats hx hc (hp_oats g1) g3 (thr g4) (fun _ => uJ_same J _), by decide, by decide, g5⟩
  · obtain ⟨b, S2, g3, g4, g5⟩ := g2 J
    rw [← e1, ← e2, ← e3] at g1 g3
    exact ⟨w, S2, J, 2, 12, lwc_oats hx hc (hpx_oats hx2 g1) g3 (thr g4) (fun hk => absurd hk (z_ne0 (twoA_r x) hx2)), by decide, by decide, g5⟩
theorem st_weariest {X : Nat × (Nat → Int32)} {dd n : Nat} {w : Bool × Bool × Bool} {S : Hp} {J : Nat → Nat → Int64} {x4 : Int32} {c1 c2 : Nat} (hR : Rel w S) (hx : ∀ j : Nat, 1 ≤ j → j ≤ 8 → ¬ ((x4 + nI j) < 0 ∨ X.1 ≤ (x4 + nI j).toNatClampNeg)) (hc : c1 + 4 ≤ 601024 ∧ c2 + 24 ≤ 7293034) : StP X dd n w S J x4 c1 c2 1248 := by
  obtain ⟨p1, e1, i1⟩ := x32 (X.2 (x4 + (nI 1)).toNatClampNeg)
  rcases sim_weariest (X := X) (e := dd) (J := J) hR i1 with ⟨v, w1, S1, hw, g1, g2⟩ | ⟨x, S1, g1, hx2, g2⟩
  · have hw := hw rfl
    subst hw
    obtain ⟨S2, g3, g4, g5⟩ := g2 (uJ J 158 0 v.toInt64)
    rw [← e1] at g1 g3
    exact ⟨w1, S2, _, 1, 6, lwc_weariest hx hc (hp_weariest g1) g3 (thr g4) (fun _ => uJ_same J _), by decide, by decide, g5⟩
  · obtain ⟨b, S2, g3, g4, g5⟩ := g2 J
    rw [← e1] at g1 g3
    exact ⟨w, S2, J, 1, 6, lwc_weariest hx hc (hpx_weariest hx2 g1) g3 (thr g4) (fun hk => absurd hk (z_ne0 (oneB_r x) hx2)), by decide, by decide, g5⟩
theorem st_arrives {X : Nat × (Nat → Int32)} {dd n : Nat} {w : Bool × Bool × Bool} {S : Hp} {J : Nat → Nat → Int64} {x4 : Int32} {c1 c2 : Nat} (hR : Rel w S) (hx : ∀ j : Nat, 1 ≤ j → j ≤ 8 → ¬ ((x4 + nI j) < 0 ∨ X.1 ≤ (x4 + nI j).toNatClampNeg)) (hc : c1 + 4 ≤ 601024 ∧ c2 + 24 ≤ 7293034) : StP X dd n w S J x4 c1 c2 1283 := by
  obtain ⟨p1, e1, i1⟩ := x32 (X.2 (x4 + (nI 1)).toNatClampNeg)
  rcases sim_arrives (X := X) (e := dd) (J := J) hR i1 with ⟨v, w1, S1, hw, g1, g2⟩ | ⟨x, S1, g1, hx2, g2⟩
  · have hw := hw rfl
    subst hw
    obtain ⟨S2, g3, g4, g5⟩ := g2 (uJ J 158 0 v.toInt64)
    rw [← e1] at g1 g3
    exact ⟨w1, S2, _, 1, 6, lwc_arrives hx hc (hp_arrives g1) g3 (thr g4) (fun _ => uJ_same J _), by decide, by decide, g5⟩
  · obtain ⟨b, S2, g3, g4, g5⟩ := g2 J
    rw [← e1] at g1 g3
    exact ⟨w, S2, J, 1, 6, lwc_arrives hx hc (hpx_arrives hx2 g1) g3 (thr g4) (fun hk => absurd hk (z_ne0 (oneN_r x) hx2)), by decide, by decide, g5⟩
theorem st_reach {X : Nat × (Nat → Int32)} {dd n : Nat} {w : Bool × Bool × Bool} {S : Hp} {J : Nat → Nat → Int64} {x4 : Int32} {c1 c2 : Nat} (hR : Rel w S) (hx : ∀ j : Nat, 1 ≤ j → j ≤ 8 → ¬ ((x4 + nI j) < 0 ∨ X.1 ≤ (x4 + nI j).toNatClampNeg)) (hc : c1 + 4 ≤ 601024 ∧ c2 + 24 ≤ 7293034) : StP X dd n w S J x4 c1 c2 1318 := by
  obtain ⟨p1, e1, i1⟩ := x32 (X.2 (x4 + (nI 1)).toNatClampNeg)
  obtain ⟨p2, e2, i2⟩ := x32 (X.2 (x4 + (nI 2)).toNatClampNeg)
  rcases sim_reach (X := X) (e := dd) (J := J) hR i1 i2 with ⟨v, w1, S1, hw, g1, g2⟩ | ⟨x, S1, g1, hx2, g2⟩
  · have hw := hw rfl
    subst hw
    obtain ⟨S2, g3, g4, g5⟩ := g2 (uJ J 158 0 v.toInt64)
    rw [← e1, ← e2] at g1 g3
    exact ⟨w1, S2, _, 2, 12, lwc_reach hx hc (hp_reach g1) g3 (thr g4) (fun _ => uJ_same J _), by decide, by decide, g5⟩
  · obtain ⟨b, S2, g3, g4, g5⟩ := g2 J
    rw [← e1, ← e2] at g1 g3
    exact ⟨w, S2, J, 2, 12, lwc_reach hx hc (hpx_reach hx2 g1) g3 (thr g4) (fun hk => absurd hk (z_ne0 (twoA_r x) hx2)), by decide, by decide, g5⟩
theorem st_year {X : Nat × (Nat → Int32)} {dd n : Nat} {w : Bool × Bool × Bool} {S : Hp} {J : Nat → Nat → Int64} {x4 : Int32} {c1 c2 : Nat} (hR : Rel w S) (hx : ∀ j : Nat, 1 ≤ j → j ≤ 8 → ¬ ((x4 + nI j) < 0 ∨ X.1 ≤ (x4 + nI j).toNatClampNeg)) (hc : c1 + 4 ≤ 601024 ∧ c2 + 24 ≤ 7293034) : StP X dd n w S J x4 c1 c2 1363 := by
  obtain ⟨p1, e1, i1⟩ := x32 (X.2 (x4 + (nI 1)).toNatClampNeg)
  obtain ⟨p2, e2, i2⟩ := x32 (X.2 (x4 + (nI 2)).toNatClampNeg)
  obtain ⟨p3, e3, i3⟩ := x32 (X.2 (x4 + (nI 3)).toNatClampNeg)
  obtain ⟨p4, e4, i4⟩ := x32 (X.2 (x4 + (nI 4)).toNatClampNeg)
  rcases sim_year (X := X) (e := dd) (J := J) hR i1 i2 i3 i4 with ⟨v, w1, S1, hw, g1, g2⟩ | ⟨x, S1, g1, hx2, g2⟩
  · have hw := hw rfl
    subst hw
    obtain ⟨S2, g3, g4, g5⟩ := g2 (uJ J 158 0 v.toInt64)
    rw [← e1, ← e2, ← e3, ← e4] at g1 g3
    exact ⟨w1, S2, _, 1, 6, lwc_year hx hc (hp_year g1) g3 (thr g4) (fun _ => uJ_same J _), by decide, by decide, g5⟩
  · obtain ⟨b, S2, g3, g4, g5⟩ := g2 J
    rw [← e1, ← e2, ← e3, ← e4] at g1 g3
    exact ⟨w, S2, J, 1, 6, lwc_year hx hc (hpx_year hx2 g1) g3 (thr g4) (fun hk => absurd hk (z_ne0 (oneB_r x) hx2)), by decide, by decide, g5⟩
theorem st_span {X : Nat × (Nat → Int32)} {dd n : Nat} {w : Bool × Bool × Bool} {S : Hp} {J : Nat → Nat → Int64} {x4 : Int32} {c1 c2 : Nat} (hR : Rel w S) (hx : ∀ j : Nat, 1 ≤ j → j ≤ 8 → ¬ ((x4 + nI j) < 0 ∨ X.1 ≤ (x4 + nI j).toNatClampNeg)) (hc : c1 + 4 ≤ 601024 ∧ c2 + 24 ≤ 7293034) : StP X dd n w S J x4 c1 c2 1428 := by
  obtain ⟨p1, e1, i1⟩ := x32 (X.2 (x4 + (nI 1)).toNatClampNeg)
  obtain ⟨p2, e2, i2⟩ := x32 (X.2 (x4 + (nI 2)).toNatClampNeg)
  obtain ⟨p3, e3, i3⟩ := x32 (X.2 (x4 + (nI 3)).toNatClampNeg)
  obtain ⟨p4, e4, i4⟩ := x32 (X.2 (x4 + (nI 4)).toNatClampNeg)
  obtain ⟨p5, e5, i5⟩ := x32 (X.2 (x4 + (nI 5)).toNatClampNeg)
  obtain ⟨p6, e6, i6⟩ := x32 (X.2 (x4 + (nI 6)).toNatClampNeg)
  rcases sim_span (X := X) (e := dd) (J := J) hR i1 i2 i3 i4 i5 i6 with ⟨v, w1, S1, hw, g1, g2⟩ | ⟨x, S1, g1, hx2, g2⟩
  · have hw := hw rfl
    subst hw
    obtain ⟨S2, g3, g4, g5⟩ := g2 (uJ J 158 0 v.toInt64)
    rw [← e1, ← e2, ← e3, ← e4, ← e5, ← e6] at g1 g3
    exact ⟨w1, S2, _, 2, 12, lwc_span hx hc (hp_span g1) g3 (thr g4) (fun _ => uJ_same J _), by decide, by decide, g5⟩
  · obtain ⟨b, S2, g3, g4, g5⟩ := g2 J
    rw [← e1, ← e2, ← e3, ← e4, ← e5, ← e6] at g1 g3
    exact ⟨w, S2, J, 2, 12, lwc_span hx hc (hpx_span hx2 g1) g3 (thr g4) (fun hk => absurd hk (z_ne0 (oneB_r x) hx2)), by decide, by decide, g5⟩
theorem st_image {X : Nat × (Nat → Int32)} {dd n : Nat} {w : Bool × Bool × Bool} {S : Hp} {J : Nat → Nat → Int64} {x4 : Int32} {c1 c2 : Nat} (hR : Rel w S) (hx : ∀ j : Nat, 1 ≤ j → j ≤ 8 → ¬ ((x4 + nI j) < 0 ∨ X.1 ≤ (x4 + nI j).toNatClampNeg)) (hc : c1 + 4 ≤ 601024 ∧ c2 + 24 ≤ 7293034) : StP X dd n w S J x4 c1 c2 1513 := by
  obtain ⟨v, S1, S2, g1, g2, g3⟩ := sim_image (X := X) (dd := dd) (J := J) hR 
  exact ⟨w, S2, J, 0, 0, lwc_image hx hc g1 g2, by decide, by decide, g3⟩
theorem st_restore {X : Nat × (Nat → Int32)} {dd n : Nat} {w : Bool × Bool × Bool} {S : Hp} {J : Nat → Nat → Int64} {x4 : Int32} {c1 c2 : Nat} (hR : Rel w S) (hx : ∀ j : Nat, 1 ≤ j → j ≤ 8 → ¬ ((x4 + nI j) < 0 ∨ X.1 ≤ (x4 + nI j).toNatClampNeg)) (hc : c1 + 4 ≤ 601024 ∧ c2 + 24 ≤ 7293034) : StP X dd n w S J x4 c1 c2 1520 := by
  obtain ⟨v, S1, S2, g1, g2, g3⟩ := sim_restore (X := X) (dd := dd) (J := J) hR 
  exact ⟨w, S2, J, 0, 0, lwc_restore hx hc g1 g2, by decide, by decide, g3⟩
theorem st_status {X : Nat × (Nat → Int32)} {dd n : Nat} {w : Bool × Bool × Bool} {S : Hp} {J : Nat → Nat → Int64} {x4 : Int32} {c1 c2 : Nat} (hR : Rel w S) (hx : ∀ j : Nat, 1 ≤ j → j ≤ 8 → ¬ ((x4 + nI j) < 0 ∨ X.1 ≤ (x4 + nI j).toNatClampNeg)) (hc : c1 + 4 ≤ 601024 ∧ c2 + 24 ≤ 7293034) : StP X dd n w S J x4 c1 c2 1527 := by
  obtain ⟨p1, e1, i1⟩ := x32 (X.2 (x4 + (nI 1)).toNatClampNeg)
  obtain ⟨v, S1, S2, g1, g2, g3⟩ := sim_status (X := X) (dd := dd) (J := J) hR i1
  rw [← e1] at g1 g2
  exact ⟨w, S2, J, 0, 0, lwc_status hx hc g1 g2, by decide, by decide, g3⟩
theorem st_count {X : Nat × (Nat → Int32)} {dd n : Nat} {w : Bool × Bool × Bool} {S : Hp} {J : Nat → Nat → Int64} {x4 : Int32} {c1 c2 : Nat} (hR : Rel w S) (hx : ∀ j : Nat, 1 ≤ j → j ≤ 8 → ¬ ((x4 + nI j) < 0 ∨ X.1 ≤ (x4 + nI j).toNatClampNeg)) (hc : c1 + 4 ≤ 601024 ∧ c2 + 24 ≤ 7293034) : StP X dd n w S J x4 c1 c2 1544 := by
  obtain ⟨p1, e1, i1⟩ := x32 (X.2 (x4 + (nI 1)).toNatClampNeg)
  obtain ⟨v, S1, S2, g1, g2, g3⟩ := sim_count (X := X) (dd := dd) (J := J) hR i1
  rw [← e1] at g1 g2
  exact ⟨w, S2, J, 0, 0, lwc_count hx hc g1 g2, by decide, by decide, g3⟩
