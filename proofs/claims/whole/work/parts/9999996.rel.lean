/-! WHAT HOLDS BETWEEN TWO CALLS -/
abbrev I32 (a : Int) : Prop := -2147483648 ≤ a ∧ a < 2147483648
def Qs (rd : Int → Int) (nR nC : Int) (s : Int → Int) : Prop := InvS rd nR nC s ∧ s 50 ≤ 5600
def RelA (w : Bool × Bool × Bool) (S : Hp) (nT nR nC : Int) (rd : Int → Int) (cd : List (Int × Int)) (nB : Int) (bk s : Int → Int) (P : Pst) (B : Nat → Int) (z : Int) : Prop :=
  (CL S (iL w.1) nT nR nC rd ∧ CS nR nC S 8 s ∧ CW S (iW w.2.1) cd ∧ CB S (iB w.2.2) nB bk ∧ PC nR nC S P) ∧ (LdP S nT nR nC rd ∧ NwP nR nC S s ∧ CdP S cd ∧ BkP S nB bk ∧ PM nR nC S P) ∧ (Ends nT nR rd ∧ Qs rd nR nC s ∧ PQ (Qs rd nR nC) P) ∧ (Tx S 2 B ∧ Tx S 134 B ∧ S 1 1 = z ∧ S 132 2 = z ∧ 0 ≤ z ∧ z ≤ 600) ∧ S 0 12 = S 132 8 ∧ S 0 13 = S 132 32
def Rel (w : Bool × Bool × Bool) (S : Hp) : Prop := ∃ nT nR nC rd cd nB bk s P B z, RelA w S nT nR nC rd cd nB bk s P B z ∧ S 0 14 = S 133 0 ∧ S 0 15 = S 133 1
def scr (w : Bool × Bool × Bool) (o : Nat) : Prop := (17 ≤ o ∧ o ≤ 25) ∨ (97 ≤ o ∧ o ≤ 99) ∨ o = iW w.2.1 + 3 ∨ o = iW w.2.1 + 4 ∨ o = iB w.2.2 ∨ o = iB w.2.2 + 3 ∨ o = 133 ∨ o = 143 ∨ o = 144 ∨ o = 148 ∨ o = 150 ∨ o = 153 ∨ o = 154 ∨ o = 155
def FrQ (w : Bool × Bool × Bool) (S S' : Hp) : Prop := (∀ o, o ≠ 0 → o ≠ 132 → ¬ scr w o → S' o = S o) ∧ S' 0 12 = S 0 12 ∧ S' 0 13 = S 0 13 ∧ ∀ k, k ≠ 0 → k ≠ 47 → S' 132 k = S 132 k
theorem relA_q {w : Bool × Bool × Bool} {S S' : Hp} {nT nR nC : Int} {rd : Int → Int} {cd : List (Int × Int)} {nB : Int} {bk s : Int → Int} {P : Pst} {B : Nat → Int} {z : Int} (h : RelA w S nT nR nC rd cd nB bk s P B z) (hq : FrQ w S S') (hB1 : CB S' (iB w.2.2) nB bk) : RelA w S' nT nR nC rd cd nB bk s P B z := by
  obtain ⟨⟨hL, hs, hc, hB, hP⟩, ⟨mL, mn, mc, mB, mP⟩, hE, ⟨t1, t2, t3, t4, t5⟩, f1, f2⟩ := h
  obtain ⟨q1, q2, q3, q4⟩ := hq
  have eL := iL_c w.1
  have eW := iW_c w.2.1
  have eB := iB_c w.2.2
  refine ⟨⟨CL_of hL (q1 _ ?_ ?_ ?_) (q1 _ ?_ ?_ ?_) (q1 _ ?_ ?_ ?_) (q1 _ ?_ ?_ ?_), CS_of hs ?_ (fun i i1 i2 => q1 _ ?_ ?_ ?_), CW_of hc ?_ (q1 _ ?_ ?_ ?_) (q1 _ ?_ ?_ ?_), hB1, PC_of hP ?_ ?_ (fun o o1 o2 => q1 _ ?_ ?_ ?_)⟩, ⟨LdP_of mL (q4 _ (by decide) (by decide)) (q4 _ (by decide) (by decide)) (q4 _ (by decide) (by decide)) (fun k _ _ => ?_), fun k hk => ?_, CdP_of mc (q4 _ (by decide) (by decide)) (q1 _ ?_ ?_ ?_) (q1 _ ?_ ?_ ?_), BkP_of mB (q4 _ (by decide) (by decide)) (q1 _ ?_ ?_ ?_), PM_of mP (q4 _ (by decide) (by decide)) (q4 _ (by decide) (by decide)) (q1 _ ?_ ?_ ?_) (q1 _ ?_ ?_ ?_)⟩, hE, ⟨?_, ?_, ?_, ?_, t5⟩, ?_, ?_⟩
  all_goals try (first | omega | (unfold scr; omega))
  · rw [q1 8 (by omega) (by omega) (by unfold scr; omega)]
    exact ⟨rfl, rfl⟩
  · rw [q1 (iW w.2.1) (by omega) (by omega) (by unfold scr; omega)]
  · rw [q1 26 (by omega) (by omega) (by unfold scr; omega)]
  · rw [q1 26 (by omega) (by omega) (by unfold scr; omega)]
  · rw [q1 137 (by omega) (by omega) (by unfold scr; omega)]
  · rw [q1 147 (by omega) (by omega) (by unfold scr; omega)]
    exact mn k hk
  · exact ⟨fun k hk => by rw [q1 2 (by omega) (by omega) (by unfold scr; omega)]; exact t1.1 k hk, t1.2⟩
  · exact ⟨fun k hk => by rw [q1 134 (by omega) (by omega) (by unfold scr; omega)]; exact t2.1 k hk, t2.2⟩
  · rw [q1 1 (by omega) (by omega) (by unfold scr; omega)]
    exact t3
  · rw [q4 2 (by decide) (by decide)]
    exact t4
  · rw [q2, q4 8 (by decide) (by decide)]
    exact f1
  · rw [q3, q4 32 (by decide) (by decide)]
    exact f2
theorem FrQ_rf (w : Bool × Bool × Bool) (S : Hp) : FrQ w S S := ⟨fun _ _ _ _ => rfl, rfl, rfl, fun _ _ _ => rfl⟩
/-- the class's own scratch -/
theorem FrQ_c {w : Bool × Bool × Bool} {S S' : Hp} {L : List Nat} (h : Fr L S S') (hL : ∀ o, o ∈ L → (17 ≤ o ∧ o ≤ 25) ∨ (97 ≤ o ∧ o ≤ 99) ∨ o = iW w.2.1 + 3 ∨ o = iW w.2.1 + 4 ∨ o = iB w.2.2 ∨ o = iB w.2.2 + 3) : FrQ w S S' ∧ S' 0 = S 0 ∧ S' 133 = S 133 := by
  have eW := iW_c w.2.1
  have eB := iB_c w.2.2
  have e0 : S' 0 = S 0 := h 0 (fun z => by have := hL 0 z; omega)
  have e1 : S' 133 = S 133 := h 133 (fun z => by have := hL 133 z; omega)
  have e2 : S' 132 = S 132 := h 132 (fun z => by have := hL 132 z; omega)
  refine ⟨⟨fun o _ _ hs => h o (fun z => hs ?_), by rw [e0], by rw [e0], fun k _ _ => by rw [e2]⟩, e0, e1⟩
  have := hL o z
  unfold scr
  omega
theorem CB_keep {w : Bool × Bool × Bool} {S S' : Hp} {L : List Nat} {nB : Int} {bk : Int → Int} (hB : CB S (iB w.2.2) nB bk) (h : Fr L S S') (hL : ∀ o, o ∈ L → (17 ≤ o ∧ o ≤ 25) ∨ (97 ≤ o ∧ o ≤ 99) ∨ o = iW w.2.1 + 3 ∨ o = iW w.2.1 + 4) : CB S' (iB w.2.2) nB bk := by
  have eW := iW_c w.2.1
  have eB := iB_c w.2.2
  have e : ∀ i, i ≤ 2 → S' (iB w.2.2 + i) = S (iB w.2.2 + i) := fun i hi => h _ (fun z => by have := hL _ z; omega)
  have e0 : S' (iB w.2.2) = S (iB w.2.2) := e 0 (by omega)
  exact CB_of hB (by rw [e0]) (e 1 (by omega)) (e 2 (by omega))
theorem FrQ_m {w : Bool × Bool × Bool} {S S' : Hp} (h : QuM S S') : FrQ w S S' ∧ S' 0 = S 0 ∧ S' 133 = S 133 ∧ S' 132 0 = 0 := by
  obtain ⟨h1, h2, h3⟩ := h
  have hm : ∀ o, o ∈ scM → o = 132 ∨ o = 143 ∨ o = 144 ∨ o = 148 ∨ o = 150 ∨ o = 153 ∨ o = 154 ∨ o = 155 := by
    intro o ho
    unfold scM at ho
    simp only [List.mem_cons, List.not_mem_nil, or_false] at ho
    omega
  have e0 : S' 0 = S 0 := h1 0 (fun z => by have := hm 0 z; omega)
  have e1 : S' 133 = S 133 := h1 133 (fun z => by have := hm 133 z; omega)
  refine ⟨⟨fun o a b c => h1 o (fun z => c ?_), by rw [e0], by rw [e0], h2⟩, e0, e1, h3⟩
  have := hm o z
  unfold scr
  omega
/-- the rows of a book stand as they were -/
theorem CB_m {w : Bool × Bool × Bool} {S S' : Hp} {nB : Int} {bk : Int → Int} (hB : CB S (iB w.2.2) nB bk) (h : QuM S S') : CB S' (iB w.2.2) nB bk := by
  have eB := iB_c w.2.2
  have hm : ∀ o, o ∈ scM → 132 ≤ o := by
    intro o ho
    unfold scM at ho
    simp only [List.mem_cons, List.not_mem_nil, or_false] at ho
    omega
  have e : ∀ i, i ≤ 2 → S' (iB w.2.2 + i) = S (iB w.2.2 + i) := fun i hi => h.1 _ (fun z => by have := hm _ z; omega)
  have e0 : S' (iB w.2.2) = S (iB w.2.2) := e 0 (by omega)
  exact CB_of hB (by rw [e0]) (e 1 (by omega)) (e 2 (by omega))
theorem rel_mid {w : Bool × Bool × Bool} {S S1 : Hp} {L : List Nat} {nT nR nC : Int} {rd : Int → Int} {cd : List (Int × Int)} {nB : Int} {bk s : Int → Int} {P : Pst} {B : Nat → Int} {z : Int} (h : RelA w S nT nR nC rd cd nB bk s P B z) (hk : S 0 14 = S 133 0 ∧ S 0 15 = S 133 1) (hF : Fr L S S1) (hL : ∀ o, o ∈ L → (17 ≤ o ∧ o ≤ 25) ∨ (97 ≤ o ∧ o ≤ 99) ∨ o = iW w.2.1 + 3 ∨ o = iW w.2.1 + 4) : RelA w S1 nT nR nC rd cd nB bk s P B z ∧ S1 0 14 = S1 133 0 ∧ S1 0 15 = S1 133 1 := by
  obtain ⟨a1, a2, a3⟩ := FrQ_c (w := w) hF (fun o z => by have := hL o z; omega)
  refine ⟨relA_q h a1 (CB_keep h.1.2.2.2.1 hF hL), ?_⟩
  rw [a2, a3]
  exact hk
theorem rel_end {w : Bool × Bool × Bool} {S S1 : Hp} {nT nR nC : Int} {rd : Int → Int} {cd : List (Int × Int)} {nB : Int} {bk s : Int → Int} {P : Pst} {B : Nat → Int} {z : Int} (h : RelA w S nT nR nC rd cd nB bk s P B z) (hk : S 0 14 = S 133 0 ∧ S 0 15 = S 133 1) (hq : QuM S S1) : S1 132 0 = 0 ∧ Rel w S1 := by
  obtain ⟨a1, a2, a3, a4⟩ := FrQ_m (w := w) hq
  refine ⟨a4, nT, nR, nC, rd, cd, nB, bk, s, P, B, z, relA_q h a1 (CB_m h.1.2.2.2.1 hq), ?_⟩
  rw [a2, a3]
  exact hk
theorem bad_at (S : Hp) (c k : Int) : (∀ o, o ≠ 132 → o ≠ 133 → badS (uS S 132 0 0) c k o = S o) ∧ (∀ i, i ≠ 0 → badS (uS S 132 0 0) c k 132 i = S 132 i) ∧ badS (uS S 132 0 0) c k 132 0 = c ∧ badS (uS S 132 0 0) c k 133 k = S 133 k + 1 ∧ ∀ i, i ≠ k → badS (uS S 132 0 0) c k 133 i = S 133 i := by
  unfold badS
  refine ⟨fun o a b => ?_, fun i hi => ?_, ?_, ?_, fun i hi => ?_⟩
  · rw [uS_row _ _ _ b, uS_row _ _ _ a, uS_row _ _ _ a]
  · rw [uS_ne _ _ (Or.inl (by decide)), uS_ne _ _ (Or.inr hi), uS_ne _ _ (Or.inr hi)]
  · rw [uS_ne _ _ (Or.inl (by decide)), uS_self]
  · rw [uS_self, uS_ne _ _ (Or.inl (by decide))]
  · rw [uS_ne _ _ (Or.inr hi), uS_ne _ _ (Or.inl (by decide)), uS_ne _ _ (Or.inl (by decide))]
theorem rel_bad {w : Bool × Bool × Bool} {S : Hp} {nT nR nC : Int} {rd : Int → Int} {cd : List (Int × Int)} {nB : Int} {bk s : Int → Int} {P : Pst} {B : Nat → Int} {z : Int} (h : RelA w S nT nR nC rd cd nB bk s P B z) (hk : S 0 14 = S 133 0 ∧ S 0 15 = S 133 1) (c : Int) : (mxB (xbS S) c 132 0 = c ∧ Rel w (mxB (xbS S) c)) ∧ mxN (xnS S) 132 0 = 1 ∧ Rel w (mxN (xnS S)) := by
  have eB := iB_c w.2.2
  constructor
  · obtain ⟨b1, b2, b3, b4, b5⟩ := bad_at (xbS S) c 1
    have hF : FrQ w S (mxB (xbS S) c) := by
      refine ⟨fun o o1 o2 o3 => ?_, ?_, ?_, fun k k1 _ => ?_⟩
      · have e := b1 o o2 (fun z => o3 (by unfold scr; omega))
        refine e.trans ?_
        unfold xbS
        exact uS_row _ _ _ o1
      · refine (congrFun (b1 0 (by decide) (by decide)) 12).trans ?_
        unfold xbS
        exact uS_ne _ _ (Or.inr (by decide))
      · refine (congrFun (b1 0 (by decide) (by decide)) 13).trans ?_
        unfold xbS
        exact uS_ne _ _ (Or.inr (by decide))
      · refine (b2 k k1).trans ?_
        unfold xbS
        exact uS_ne _ _ (Or.inl (by decide))
    have hr : ∀ i, i ≤ 2 → mxB (xbS S) c (iB w.2.2 + i) = S (iB w.2.2 + i) := fun i hi => (b1 _ (by omega) (by omega)).trans (by unfold xbS; exact uS_row _ _ _ (by omega))
    have h0 : mxB (xbS S) c (iB w.2.2) = S (iB w.2.2) := hr 0 (by omega)
    refine ⟨b3, nT, nR, nC, rd, cd, nB, bk, s, P, B, z, relA_q h hF (CB_of h.1.2.2.2.1 (by rw [h0]) (hr 1 (by omega)) (hr 2 (by omega))), ?_, ?_⟩
    · refine (congrFun (b1 0 (by decide) (by decide)) 14).trans (Eq.trans ?_ (b5 0 (by decide)).symm)
      unfold xbS
      rw [uS_ne _ _ (Or.inr (by decide)), uS_ne _ _ (Or.inl (by decide))]
      exact hk.1
    · refine (congrFun (b1 0 (by decide) (by decide)) 15).trans (Eq.trans ?_ b4.symm)
      unfold xbS
      rw [uS_self, uS_ne _ _ (Or.inl (by decide)), hk.2]
  · obtain ⟨b1, b2, b3, b4, b5⟩ := bad_at (xnS S) 1 0
    have hF : FrQ w S (mxN (xnS S)) := by
      refine ⟨fun o o1 o2 o3 => ?_, ?_, ?_, fun k k1 _ => ?_⟩
      · have e := b1 o o2 (fun z => o3 (by unfold scr; omega))
        refine e.trans ?_
        unfold xnS
        exact uS_row _ _ _ o1
      · refine (congrFun (b1 0 (by decide) (by decide)) 12).trans ?_
        unfold xnS
        exact uS_ne _ _ (Or.inr (by decide))
      · refine (congrFun (b1 0 (by decide) (by decide)) 13).trans ?_
        unfold xnS
        exact uS_ne _ _ (Or.inr (by decide))
      · refine (b2 k k1).trans ?_
        unfold xnS
        exact uS_ne _ _ (Or.inl (by decide))
    have hr : ∀ i, i ≤ 2 → mxN (xnS S) (iB w.2.2 + i) = S (iB w.2.2 + i) := fun i hi => (b1 _ (by omega) (by omega)).trans (by unfold xnS; exact uS_row _ _ _ (by omega))
    have h0 : mxN (xnS S) (iB w.2.2) = S (iB w.2.2) := hr 0 (by omega)
    refine ⟨b3, nT, nR, nC, rd, cd, nB, bk, s, P, B, z, relA_q h hF (CB_of h.1.2.2.2.1 (by rw [h0]) (hr 1 (by omega)) (hr 2 (by omega))), ?_, ?_⟩
    · refine (congrFun (b1 0 (by decide) (by decide)) 14).trans (Eq.trans ?_ b4.symm)
      unfold xnS
      rw [uS_self, uS_ne _ _ (Or.inl (by decide)), hk.1]
    · refine (congrFun (b1 0 (by decide) (by decide)) 15).trans (Eq.trans ?_ (b5 1 (by decide)).symm)
      unfold xnS
      rw [uS_ne _ _ (Or.inr (by decide)), uS_ne _ _ (Or.inl (by decide))]
      exact hk.2
/-- what a call of the class and the same call of the reference come to -/
def Out (X : Nat × (Nat → Int32)) (e : Nat) (w : Bool × Bool × Bool) (S : Hp) (J : Nat → Nat → Int64) (jc jm : Nat) (vs : List Value) (two : Nat → Int) (cw : Bool) : Prop :=
  (∃ (v : Int32) (w1 : Bool × Bool × Bool) (S1 : Hp), (cw = false → w1 = w) ∧ am_call X aP (e + 59) jc (.ref 0 :: vs) (mkS w (hI S) J) = some (.inl (some (.int v)), mkS w1 (hI S1) J) ∧ ∀ J2, ∃ S2, am_call X aP (e + 60) jm (.ref 132 :: vs) (mkS w1 (hI S1) J2) = some (.inl (some (.int v)), mkS w1 (hI S2) J2) ∧ S2 132 0 = 0 ∧ Rel w1 S2) ∨
  ∃ (x : Nat) (S1 : Hp), am_call X aP (e + 59) jc (.ref 0 :: vs) (mkS w (hI S) J) = some (.inr x, mkS w (hI S1) J) ∧ two x ≠ 0 ∧ ∀ J2, ∃ (b : Int32) (S2 : Hp), am_call X aP (e + 60) jm (.ref 132 :: vs) (mkS w (hI S1) J2) = some (.inl (some (.int b)), mkS w (hI S2) J2) ∧ S2 132 0 = two x ∧ Rel w S2
def twoA (x : Nat) : Int := if x = 1 then 1 else if x = 2 then 2 else 0
def oneB (x : Nat) : Int := if x = 2 then 1 else 0
def oneN (x : Nat) : Int := if x = 1 then 1 else 0
theorem out_B {X : Nat × (Nat → Int32)} {e : Nat} {w : Bool × Bool × Bool} {S : Hp} {J : Nat → Nat → Int64} {jc jm : Nat} {vs : List Value} {two : Nat → Int} {cw : Bool} {nT nR nC : Int} {rd : Int → Int} {cd : List (Int × Int)} {nB : Int} {bk s : Int → Int} {P : Pst} {B : Nat → Int} {z : Int} (h : RelA w S nT nR nC rd cd nB bk s P B z) (hk : S 0 14 = S 133 0 ∧ S 0 15 = S 133 1) {c : Int} (hc : two 2 = c) (hc0 : c ≠ 0) (h1 : am_call X aP (e + 59) jc (.ref 0 :: vs) (mkS w (hI S) J) = some (.inr 2, mkS w (hI (xbS S)) J)) (h2 : ∀ J2, am_call X aP (e + 60) jm (.ref 132 :: vs) (mkS w (hI (xbS S)) J2) = some (.inl (some (.int (zI 0))), mkS w (hI (mxB (xbS S) c)) J2)) : Out X e w S J jc jm vs two cw := by
  obtain ⟨⟨r1, r2⟩, -⟩ := rel_bad h hk c
  exact Or.inr ⟨2, xbS S, h1, (by rw [hc]; exact hc0), fun J2 => ⟨zI 0, mxB (xbS S) c, h2 J2, r1.trans hc.symm, r2⟩⟩
theorem out_N {X : Nat × (Nat → Int32)} {e : Nat} {w : Bool × Bool × Bool} {S : Hp} {J : Nat → Nat → Int64} {jc jm : Nat} {vs : List Value} {two : Nat → Int} {cw : Bool} {nT nR nC : Int} {rd : Int → Int} {cd : List (Int × Int)} {nB : Int} {bk s : Int → Int} {P : Pst} {B : Nat → Int} {z : Int} (h : RelA w S nT nR nC rd cd nB bk s P B z) (hk : S 0 14 = S 133 0 ∧ S 0 15 = S 133 1) (hc : two 1 = 1) (h1 : am_call X aP (e + 59) jc (.ref 0 :: vs) (mkS w (hI S) J) = some (.inr 1, mkS w (hI (xnS S)) J)) (h2 : ∀ J2, am_call X aP (e + 60) jm (.ref 132 :: vs) (mkS w (hI (xnS S)) J2) = some (.inl (some (.int (zI 0))), mkS w (hI (mxN (xnS S))) J2)) : Out X e w S J jc jm vs two cw := by
  obtain ⟨-, r1, r2⟩ := rel_bad h hk 1
  exact Or.inr ⟨1, xnS S, h1, (by rw [hc]; decide), fun J2 => ⟨zI 0, mxN (xnS S), h2 J2, r1.trans hc.symm, r2⟩⟩
