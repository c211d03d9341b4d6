/-! THE START OF THE LAW -/
def lim (o : Nat) : Nat := if o = 27 ∨ o = 44 ∨ o = 132 then 64 else 16
def outR (R : Nat → Nat → Option Nat) : Prop := ∀ o k, 159 ≤ o ∨ lim o ≤ k → R o k = none
theorem outR_wr : ∀ (l : List cOp) (R : Nat → Nat → Option Nat), outR R → l.all (fun e => Nat.blt e.2.1 159 && (if e.1 = 3 then Nat.ble e.2.2.2 (lim e.2.1) else Nat.blt e.2.2.1 (lim e.2.1))) = true → outR (wrR l R)
  | [], _, h, _ => h
  | e :: l, R, h, ha => by
    rw [List.all_cons, Bool.and_eq_true, Bool.and_eq_true] at ha
    obtain ⟨⟨h1, h2⟩, h3⟩ := ha
    have h1 : e.2.1 < 159 := by
      unfold Nat.blt at h1
      exact Nat.le_of_ble_eq_true h1
    refine outR_wr l _ (fun o k hk => ?_) h3
    by_cases e1 : e.1 = 1
    · rw [if_pos e1]
      rw [if_neg (by omega)] at h2
      have h2 : e.2.2.1 < lim e.2.1 := by
        unfold Nat.blt at h2
        exact Nat.le_of_ble_eq_true h2
      unfold uR
      by_cases q : o = e.2.1
      · subst q
        rw [va_up_self]
        by_cases q2 : k = e.2.2.1
        · exact absurd hk (by omega)
        · rw [va_up_ne _ _ q2]
          exact h _ k hk
      · rw [va_up_ne _ _ q]
        exact h o k hk
    · rw [if_neg e1]
      by_cases e3 : e.1 = 3
      · rw [if_pos e3]
        rw [if_pos e3] at h2
        have h2 := Nat.le_of_ble_eq_true h2
        by_cases q : o = e.2.1
        · subst q
          rw [va_up_self]
          exact if_neg (by omega)
        · rw [va_up_ne _ _ q]
          exact h o k hk
      · rw [if_neg e3]
        exact h o k hk
theorem RXm_big {k : Nat} (h : 64 ≤ k) : RXm k = none := by
  unfold RXm
  repeat' split
  all_goals first | rfl | (exfalso; omega)
theorem nAr_le (c : Nat) : nAr c ≤ 8 := by
  unfold nAr
  repeat' split
  all_goals omega
theorem nAr_0 {c : Nat} (h : 8 ≤ c) : nAr c = 0 := by
  unfold nAr
  repeat' split
  all_goals omega
theorem KK_159 {o : Nat} (h : 159 ≤ o) : 8 ≤ KK o := by
  unfold KK
  repeat' split
  all_goals omega
theorem RX_out (w : Bool × Bool × Bool) : outR (RX w) := by
  intro o k hk
  unfold lim at hk
  unfold RX
  by_cases q1 : o = 132
  · rw [if_pos q1]
    rw [if_pos (by omega)] at hk
    exact RXm_big (by omega)
  rw [if_neg q1]
  by_cases q2 : o = 0
  · rw [if_pos q2]
    rw [if_neg (by omega)] at hk
    exact RXx_big w (by omega)
  rw [if_neg q2]
  by_cases q3 : o = 26
  · rw [if_pos q3]
    rw [if_neg (by omega)] at hk
    rw [if_neg (by omega), if_neg (by omega), if_neg (by omega)]
  rw [if_neg q3]
  by_cases q4 : o = 27
  · rw [if_pos q4]
    rw [if_pos (by omega)] at hk
    rw [if_neg (by omega)]
  rw [if_neg q4]
  by_cases q5 : o = 44
  · rw [if_pos q5]
    rw [if_pos (by omega)] at hk
    rw [if_neg (by omega)]
  rw [if_neg q5]
  rw [if_neg (by omega)] at hk
  rw [if_neg]
  intro hlt
  by_cases q6 : 159 ≤ o
  · have := nAr_0 (KK_159 q6)
    omega
  · have := nAr_le (KK o)
    omega
theorem R132_out (w : Bool × Bool × Bool) : outR (R132 w) := by
  intro o k hk
  unfold R132
  by_cases q : o < 132
  · rw [if_pos q]
    exact RX_out w o k hk
  · rw [if_neg q]
theorem box_eq {R R' : Nat → Nat → Option Nat} (h1 : outR R) (h2 : outR R') (hb : (List.range 159).all (fun o => (List.range (lim o)).all (fun k => decide (R o k = R' o k))) = true) : R = R' := by
  funext o k
  by_cases q : 159 ≤ o ∨ lim o ≤ k
  · rw [h1 o k q, h2 o k q]
  · have := List.all_eq_true.mp hb o (List.mem_range.mpr (by omega))
    exact of_decide_eq_true (List.all_eq_true.mp this k (List.mem_range.mpr (by omega)))
theorem outR_0 : outR (fun _ _ => none) := fun _ _ _ => rfl
set_option maxRecDepth 100000 in
set_option maxHeartbeats 1000000 in
theorem RA_eq : wrR opX (fun _ _ => none) = R132 (false, false, false) := box_eq (outR_wr opX _ outR_0 (by decide +kernel)) (R132_out _) (by decide +kernel)
set_option maxRecDepth 100000 in
set_option maxHeartbeats 1000000 in
theorem RM_eq : wrR opM (R132 (false, false, false)) = RX (false, false, false) := box_eq (outR_wr opM _ (R132_out _) (by decide +kernel)) (RX_out _) (by decide +kernel)
def wrS : List cOp → Hp → Hp
  | [], S => S
  | e :: l, S => wrS l (if e.1 = 2 then uS S e.2.1 (e.2.2.1 : Int) (nI e.2.2.2).toInt else S)
theorem wrI_hI : ∀ (l : List cOp) (S : Hp), wrI l (hI S) = hI (wrS l S)
  | [], _ => rfl
  | e :: l, S => by
    show wrI l (if e.1 = 2 then uI (hI S) e.2.1 e.2.2.1 (nI e.2.2.2) else hI S) = hI (wrS l (if e.1 = 2 then uS S e.2.1 (e.2.2.1 : Int) (nI e.2.2.2).toInt else S))
    by_cases q : e.1 = 2
    · rw [if_pos q, if_pos q, ← wrI_hI l]
      exact congrArg (wrI l) ((congrArg (uI (hI S) e.2.1 e.2.2.1) (z_of (nI e.2.2.2))).trans (hI_uk S _ _ _))
    · rw [if_neg q, if_neg q]
      exact wrI_hI l S
theorem wrS_row : ∀ (l : List cOp) (S : Hp) (o : Nat), l.all (fun e => !(Nat.beq e.1 2 && Nat.beq e.2.1 o)) = true → wrS l S o = S o
  | [], _, _, _ => rfl
  | e :: l, S, o, h => by
    rw [List.all_cons, Bool.and_eq_true] at h
    refine (wrS_row l _ o h.2).trans ?_
    by_cases q : e.1 = 2
    · rw [if_pos q]
      refine uS_row _ _ _ (fun z => ?_)
      have h1 := h.1
      rw [q, ← z] at h1
      have : Nat.beq o o = true := Nat.beq_refl o
      rw [this] at h1
      exact absurd h1 (by decide)
    · rw [if_neg q]
theorem hI_0 : hI (fun _ _ => 0) = fun _ _ => 0 := by
  funext o k
  exact z_lit0.symm
theorem eM : ∀ S : Hp, wrS opM S = uS S 132 8 (-1) := by
  intro S
  have h : ∀ (l m : List cOp) (S : Hp), wrS (l ++ m) S = wrS m (wrS l S) := by
    intro l
    induction l with
    | nil => intro m S; rfl
    | cons e l ih => intro m S; exact ih m _
  have h1 : ∀ (o k v : Nat) (S : Hp), wrS [(1, o, k, v)] S = S := fun o k v S => id rfl
  have h2 : ∀ (o k v : Nat) (S : Hp), wrS [(2, o, k, v)] S = uS S o (k : Int) (nI v).toInt := fun o k v S => id rfl
  simp only [opM, h, h1, h2]
  rw [show (nI 4294967295).toInt = -1 by decide]
  rfl
abbrev SA : Hp := wrS opX (fun _ _ => 0)
set_option maxRecDepth 100000 in
set_option maxHeartbeats 1000000 in
theorem SA_at : (SA 0 12 = -1 ∧ SA 0 13 = 0 ∧ SA 0 14 = 0 ∧ SA 0 15 = 0) ∧ SA 1 1 = 0 ∧ (SA 26 3 = 0 ∧ SA 26 4 = 0) ∧ (SA 100 6 = 0 ∧ SA 100 7 = 0 ∧ SA 100 8 = 0) ∧ (SA 114 4 = 1 ∧ SA 115 0 = 0 ∧ SA 116 0 = 2) ∧ SA 124 3 = 0 := by decide +kernel
theorem SA_row {o : Nat} (h : opX.all (fun e => !(Nat.beq e.1 2 && Nat.beq e.2.1 o)) = true) : SA o = fun _ => 0 := wrS_row opX _ o h
theorem x9_ok (X : Nat × (Nat → Int32)) (J : Nat → Nat → Int64) (hJ : ∀ o, J o = fun _ => 0) : ∃ S1 : Hp, (∀ d, am_call X aP (d + 3) 102 [.ref 0] (1, (fun _ _ => 0), J, (fun _ _ => none)) = some (.inl none, mkU (false, false, false) (hI S1) J)) ∧ CS 0 0 S1 8 (s0F ld0) ∧ (∀ o, ¬ (8 ≤ o ∧ o ≤ 15) → S1 o = SA o) ∧ cln 132 (hI S1) J (R132 (false, false, false)) := by
  obtain ⟨-, hc⟩ := x9_go X 0 hJ
  have eI : wrI opX (fun _ _ => 0) = hI SA := by rw [← hI_0]; exact wrI_hI opX _
  rw [RA_eq, eI] at hc
  have hL : CLd SA (iL false) ld0 := by
    obtain ⟨-, -, -, ⟨a1, a2, a3⟩, -⟩ := SA_at
    exact ⟨a1, a2, a3, fun r r1 r2 => absurd r2 (by show ¬ r < 0; omega), fun r r1 r2 => absurd r2 (by show ¬ r < 0; omega), okL_0⟩
  obtain ⟨S1, g1, g2, g3, g4⟩ := u_nowBegin (X := X) (S := SA) (bl := false) (x := ld0) (false, false, false) J hL
  have hr : ∀ o, ¬ (8 ≤ o ∧ o ≤ 15) → S1 o = SA o := fun o ho => g3 o (by simp only [List.mem_cons, List.not_mem_nil, or_false]; omega)
  refine ⟨S1, fun d => ?_, g2, hr, fun o ho => ?_⟩
  · refine ((x9_go X (d + 1) hJ).1).trans ?_
    rw [RA_eq, eI]
    refine (xi_74 (k := 321)).trans ?_
    rw [if_pos (by decide +kernel)]
    refine (congrArg (fun z => cV z _ _) (g1 d)).trans ?_
    rw [cV_some]
    exact xi_79 (k := 320)
  · obtain ⟨a1, a2, a3⟩ := hc o ho
    refine ⟨?_, a2, a3⟩
    rw [← a1]
    funext k
    rw [hI_at, hI_at, hr o (by omega)]
theorem y10_ok (X : Nat × (Nat → Int32)) (d : Nat) {J : Nat → Nat → Int64} {S1 : Hp} (h : cln 133 (hI S1) J (R132 (false, false, false))) : ∃ (S5 : Hp) (rd : Int → Int), am_call X aP (d + 3) 155 [.ref 132] (133, hI S1, J, R132 (false, false, false)) = some (.inl none, mkT (false, false, false) (hI S5) J) ∧ (S5 132 17 = 0 ∧ S5 132 18 = 0 ∧ S5 132 19 = 0 ∧ ∀ k, 0 ≤ k → k < 48 → S5 137 k = rd k) ∧ NwP 0 0 S5 (s0F ld0) ∧ (S5 132 26 = 0 ∧ S5 132 42 = 0 ∧ S5 132 31 = 0 ∧ S5 132 49 = 0 ∧ S5 132 32 = 0) ∧ (∀ o, o ≠ 132 → o ≠ 137 → o ≠ 138 → o ≠ 147 → S5 o = S1 o) ∧ (S5 132 2 = S1 132 2 ∧ S5 132 8 = -1) ∧ ∀ o, 158 ≤ o → hI S5 o = fun _ => 0 := by
  obtain ⟨g1, hc⟩ := y10_go X (d + 2) h
  rw [RM_eq, wrI_hI, eM] at hc
  have hL : MLd (uS (uS (uS (uS S1 132 8 (-1)) 132 14 0) 132 15 0) 132 16 0) ld0 := ⟨by rw [uS_ne _ _ (Or.inr (by decide)), uS_ne _ _ (Or.inr (by decide)), uS_self]; rfl, by rw [uS_ne _ _ (Or.inr (by decide)), uS_self]; rfl, by rw [uS_self]; rfl, fun r r1 r2 => absurd r2 (by show ¬ r < 0; omega), fun r r1 r2 => absurd r2 (by show ¬ r < 0; omega), okL_0⟩
  have hcl : am_call X aP (d + 2) 172 [.ref 132] (mkT (false, false, false) (hI (uS S1 132 8 (-1))) J) = some (.inl none, mkT (false, false, false) (hI (uS (uS (uS (uS S1 132 8 (-1)) 132 14 0) 132 15 0) 132 16 0)) J) := by
    rw [show d + 2 = (d + 1) + 1 from rfl, go_X10_clears, et_X10_clears_0]
    simp only [z_0, hu, rV_d]
  obtain ⟨SC, hSC⟩ : ∃ T, T = uS (uS (uS (uS S1 132 8 (-1)) 132 14 0) 132 15 0) 132 16 0 := ⟨_, rfl⟩
  rw [← hSC] at hL hcl
  obtain ⟨S5, rd, q1, -, q3, q4, q5, q6, q7⟩ := t_sets (X := X) (d := d) (w := (false, false, false)) (J := J) (S := SC) (x := ld0) hL
  have hr : ∀ o, o ≠ 132 → o ≠ 137 → o ≠ 138 → o ≠ 147 → S5 o = S1 o := fun o h1 h2 h3 h4 => by
    rw [q6 o (by simp only [List.mem_cons, List.not_mem_nil, or_false]; omega), hSC, uS_row _ _ _ h1, uS_row _ _ _ h1, uS_row _ _ _ h1, uS_row _ _ _ h1]
  refine ⟨S5, rd, ?_, q3, q4, q5, hr, ⟨?_, ?_⟩, fun o ho => ?_⟩
  · refine g1.trans ?_
    rw [RM_eq, wrI_hI, eM]
    refine (yi_105 (k := 293)).trans ?_
    rw [if_pos (by decide +kernel)]
    refine (congrArg (fun z => cV z _ _) hcl).trans ?_
    rw [cV_some]
    refine (yi_107 (k := 291)).trans ?_
    rw [if_pos (by decide +kernel)]
    refine (congrArg (fun z => cV z _ _) q1).trans ?_
    rw [cV_some]
    exact yi_109 (k := 290)
  · rw [q7 2 (Or.inl (by decide)), hSC, uS_ne _ _ (Or.inr (by decide)), uS_ne _ _ (Or.inr (by decide)), uS_ne _ _ (Or.inr (by decide)), uS_ne _ _ (Or.inr (by decide))]
  · rw [q7 8 (Or.inl (by decide)), hSC, uS_ne _ _ (Or.inr (by decide)), uS_ne _ _ (Or.inr (by decide)), uS_ne _ _ (Or.inr (by decide)), uS_self]
  · rw [← (h o (by omega)).1]
    funext k
    rw [hI_at, hI_at, hr o (by omega) (by omega) (by omega) (by omega)]
/-- what holds before the first call -/
theorem rel_0 {S1 S5 : Hp} {rd : Int → Int} (g2 : CS 0 0 S1 8 (s0F ld0)) (g3 : ∀ o, ¬ (8 ≤ o ∧ o ≤ 15) → S1 o = SA o) (q1 : S5 132 17 = 0 ∧ S5 132 18 = 0 ∧ S5 132 19 = 0 ∧ ∀ k, 0 ≤ k → k < 48 → S5 137 k = rd k) (q2 : NwP 0 0 S5 (s0F ld0)) (q3 : S5 132 26 = 0 ∧ S5 132 42 = 0 ∧ S5 132 31 = 0 ∧ S5 132 49 = 0 ∧ S5 132 32 = 0) (q4 : ∀ o, o ≠ 132 → o ≠ 137 → o ≠ 138 → o ≠ 147 → S5 o = S1 o) (q5 : S5 132 2 = S1 132 2 ∧ S5 132 8 = -1) : Rel (false, false, false) S5 := by
  have hr : ∀ o, ¬ (8 ≤ o ∧ o ≤ 15) → o ≠ 132 → o ≠ 137 → o ≠ 138 → o ≠ 147 → S5 o = SA o := fun o h0 h1 h2 h3 h4 => (q4 o h1 h2 h3 h4).trans (g3 o h0)
  obtain ⟨⟨a1, a2, a3, a4⟩, b1, ⟨d1, d2⟩, ⟨e1, e2, e3⟩, ⟨f1, f2, f3⟩, h1⟩ := SA_at
  have r0 := hr 0 (by decide) (by decide) (by decide) (by decide) (by decide)
  have r1 := hr 1 (by decide) (by decide) (by decide) (by decide) (by decide)
  have r26 := hr 26 (by decide) (by decide) (by decide) (by decide) (by decide)
  have r100 := hr 100 (by decide) (by decide) (by decide) (by decide) (by decide)
  have r114 := hr 114 (by decide) (by decide) (by decide) (by decide) (by decide)
  have r115 := hr 115 (by decide) (by decide) (by decide) (by decide) (by decide)
  have r116 := hr 116 (by decide) (by decide) (by decide) (by decide) (by decide)
  have r124 := hr 124 (by decide) (by decide) (by decide) (by decide) (by decide)
  have r2 : S5 2 = fun _ => 0 := (hr 2 (by decide) (by decide) (by decide) (by decide) (by decide)).trans (SA_row (by decide))
  have r134 : S5 134 = fun _ => 0 := (hr 134 (by decide) (by decide) (by decide) (by decide) (by decide)).trans (SA_row (by decide))
  have r133 : S5 133 = fun _ => 0 := (hr 133 (by decide) (by decide) (by decide) (by decide) (by decide)).trans (SA_row (by decide))
  have s132 : S1 132 = fun _ => 0 := (g3 132 (by decide)).trans (SA_row (by decide))
  have hrd : Rd 0 rd := fun r h1 h2 => absurd h2 (by omega)
  have hq : Qs rd 0 0 (s0F ld0) := by
    have hi := (s0_inv okL_0).1
    exact ⟨⟨hi, fun c c1 c2 => absurd c2 (by omega)⟩, by rw [(s0_t ld0).2]; decide⟩
  refine ⟨0, 0, 0, rd, [], 0, fun _ => 0, s0F ld0, P0, fun _ => 0, 0, ⟨⟨?_, ?_, ?_, ?_, ?_⟩, ⟨⟨q1.1, q1.2.1, q1.2.2.1, q1.2.2.2, by decide, by decide, by decide, by decide, by decide, by decide, hrd⟩, q2, ⟨q3.1, by decide, Or.inl rfl, trivial⟩, ⟨q3.2.1, fun i i1 i2 => absurd i2 (by omega), by decide, by decide, fun i i1 i2 => absurd i2 (by omega)⟩, ⟨⟨q3.2.2.1, by decide, fun i hi => absurd hi (Nat.not_lt_zero i)⟩, q3.2.2.2.1, by decide, fun j hj => absurd hj (Nat.not_lt_zero j)⟩⟩, ⟨fun r h1 h2 => absurd h2 (by omega), hq, PQ_0 _⟩, ⟨⟨fun k _ => by rw [r2], fun k _ => (show (0 : Int) ≤ 0 ∧ (0 : Int) < 256 by decide)⟩, ⟨fun k _ => by rw [r134], fun k _ => (show (0 : Int) ≤ 0 ∧ (0 : Int) < 256 by decide)⟩, by rw [r1]; exact b1, by rw [q5.1, s132], by decide, by decide⟩, ?_, ?_⟩, ?_, ?_⟩
  · exact ⟨by show S5 100 6 = 0; rw [r100]; exact e1, by show S5 100 7 = 0; rw [r100]; exact e2, by show S5 100 8 = 0; rw [r100]; exact e3, fun r h1 h2 => absurd h2 (by omega), by decide, by decide, by decide, by decide, by decide, by decide, hrd⟩
  · exact CS_of g2 (by rw [q4 8 (by decide) (by decide) (by decide) (by decide)]; exact ⟨rfl, rfl⟩) (fun i i1 i2 => q4 _ (by omega) (by omega) (by omega) (by omega))
  · exact ⟨by show S5 114 4 = 1; rw [r114]; exact f1, by decide, Or.inl rfl, by show S5 115 0 = 0; rw [r115]; exact f2, by show S5 116 0 = 2; rw [r116]; exact f3, trivial⟩
  · exact ⟨by show S5 124 3 = 0; rw [r124]; exact h1, fun i i1 i2 => absurd i2 (by omega), by decide, by decide, fun i i1 i2 => absurd i2 (by omega)⟩
  · exact ⟨⟨by rw [r26]; exact d1, by decide, fun i hi => absurd hi (Nat.not_lt_zero i)⟩, by rw [r26]; exact d2, by decide, fun j hj => absurd hj (Nat.not_lt_zero j)⟩
  · rw [r0, a1, q5.2]
  · rw [r0, a2, q3.2.2.2.2]
  · rw [r0, a3, r133]
  · rw [r0, a4, r133]
set_option maxRecDepth 100000 in
set_option maxHeartbeats 1000000 in
theorem lz_0 {X : Nat × (Nat → Int32)} {d n k : Nat} {I : Nat → Nat → Int32} {J : Nat → Nat → Int64} {R : Nat → Nat → Option Nat} : lw X d n (k + 2) 0 [some (.ref 1000000), none, none, none, none, none, none, none] [] (0, 0) (0, I, J, R) = lw X d n k 2 [some (.ref 1000000), none, none, none, none, none, none, none] [.ref 0, .ref 0] (1, 16) (mkNew (0, I, J, R)) := rfl
set_option maxRecDepth 100000 in
set_option maxHeartbeats 1000000 in
theorem lz_2 {X : Nat × (Nat → Int32)} {d n k : Nat} {ls : aL} {st : aSt} : lw X d n (k + 1) 2 ls [.ref 0, .ref 0] (1, 16) st = cV (am_call X aP d 102 [.ref 0] st) (fun s1 => lw X d n k 3 ls [.ref 0] (132, 5936) s1) (fun e s1 => rX e s1) := rfl
set_option maxRecDepth 100000 in
set_option maxHeartbeats 1000000 in
theorem lz_3 {X : Nat × (Nat → Int32)} {d n k : Nat} {I : Nat → Nat → Int32} {J : Nat → Nat → Int64} {R : Nat → Nat → Option Nat} : lw X d n (k + 3) 3 [some (.ref 1000000), none, none, none, none, none, none, none] [.ref 0] (132, 5936) (132, I, J, R) = lw X d n k 6 [some (.ref 1000000), some (.ref 0), none, none, none, none, none, none] [.ref 132, .ref 132] (133, 5986) (mkNew (132, I, J, R)) := rfl
set_option maxRecDepth 100000 in
set_option maxHeartbeats 1000000 in
theorem lz_6 {X : Nat × (Nat → Int32)} {d n k : Nat} {ls : aL} {st : aSt} : lw X d n (k + 1) 6 ls [.ref 132, .ref 132] (133, 5986) st = cV (am_call X aP d 155 [.ref 132] st) (fun s1 => lw X d n k 7 ls [.ref 132] (158, 11360) s1) (fun e s1 => rX e s1) := rfl
set_option maxRecDepth 100000 in
set_option maxHeartbeats 1000000 in
theorem lz_7 {X : Nat × (Nat → Int32)} {d n k : Nat} {I : Nat → Nat → Int32} {J : Nat → Nat → Int64} {R : Nat → Nat → Option Nat} : lw X d n (k + 6) 7 [some (.ref 1000000), some (.ref 0), none, none, none, none, none, none] [.ref 132] (158, 11360) (158, I, J, R) = aR X d m_L_law_ n 13 (lwL (nI 0) none none none) (159, 11361) (mkNew (158, I, J, R)) := rfl
theorem RX_158 (w : Bool × Bool × Bool) (k : Nat) : RX w 158 k = none := by
  unfold RX
  rw [if_neg (by decide), if_neg (by decide), if_neg (by decide), if_neg (by decide), if_neg (by decide), if_neg]
  rw [show nAr (KK 158) = 0 by decide]
  omega
theorem lawOk : LawOk := by
  intro X hX
  obtain ⟨S1, g1, g2, g3, g4⟩ := x9_ok X (fun _ _ => 0) (fun _ => rfl)
  have h1 : cln 133 (hI S1) (fun _ _ => 0) (R132 (false, false, false)) := cln_up g4 (by decide)
  obtain ⟨S5, rd, y1, y2, y3, y4, y5, y6, y7⟩ := y10_ok X 57 h1
  have hR := rel_0 g2 g3 y2 y3 y4 y5 y6
  obtain ⟨st', hst⟩ := loop_ok (X := X) (dd := 0) hX (X.1 / 9) 0 9999999 (false, false, false) S5 (fun _ _ => 0) 159 11361 (by omega) hR (by omega) (by omega) (by omega)
  refine ⟨60, st', by decide, ?_⟩
  have h0 : cln 0 (fun _ _ => 0) (fun _ _ => 0) (fun _ _ => none) := fun o _ => ⟨rfl, rfl, rfl⟩
  have h58 : cln 158 (hI S5) (fun _ _ => 0) (RX (false, false, false)) := fun o ho => ⟨y7 o ho, rfl, by
    funext k
    by_cases q : o = 158
    · subst q
      exact RX_158 (false, false, false) k
    · exact RX_out (false, false, false) o k (Or.inl (by omega))⟩
  have e0 : am_call X aP (60 + 1) 302 [.ref 1000000] st00 = aR X 60 m_L_law_ (9999999 + 1) 0 [some (.ref 1000000), none, none, none, none, none, none, none] (0, 0) st00 := am_go X 60 302 _ st00 (by decide) ⟨Nat.le_of_ble_eq_true rfl, rfl⟩
  refine e0.trans ?_
  rw [lw_aR]
  refine (lz_0 (k := 398) (I := fun _ _ => 0) (J := fun _ _ => 0) (R := fun _ _ => none)).trans ?_
  rw [mkNew_c h0]
  refine (lz_2 (k := 397)).trans ?_
  refine (congrArg (fun z => cV z _ _) (g1 57)).trans ?_
  rw [cV_some]
  refine (lz_3 (k := 394) (I := hI S1) (J := fun _ _ => 0) (R := R132 (false, false, false))).trans ?_
  rw [mkNew_c g4]
  refine (lz_6 (k := 393)).trans ?_
  refine (congrArg (fun z => cV z _ _) y1).trans ?_
  rw [cV_some]
  refine (lz_7 (k := 387) (I := hI S5) (J := fun _ _ => 0) (R := RX (false, false, false))).trans ?_
  rw [mkNew_c h58, z_0]
  exact hst
