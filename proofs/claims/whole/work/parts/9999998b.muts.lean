/-! CALLS THAT CHANGE: the class and the reference side by side -/
def OutB (X : Nat × (Nat → Int32)) (dd : Nat) (w : Bool × Bool × Bool) (S : Hp) (J : Nat → Nat → Int64) (jc jm : Nat) (vs : List Value) : Prop := ∃ (v : Int32) (S1 S2 : Hp), am_call X aP (dd + 60) jc (.ref 0 :: vs) (mkS w (hI S) J) = some (.inl (some (.int v)), mkS w (hI S1) J) ∧ am_call X aP (dd + 60) jm (.ref 132 :: vs) (mkS w (hI S1) J) = some (.inl (some (.int v)), mkS w (hI S2) J) ∧ Rel w S2
/-- towns, law and book as they were -/
theorem relA_s {w : Bool × Bool × Bool} {S S' : Hp} {nT nR nC : Int} {rd : Int → Int} {cd : List (Int × Int)} {nB : Int} {bk s : Int → Int} {P : Pst} {B : Nat → Int} {z : Int} {s' : Int → Int} {P' : Pst} {B' : Nat → Int} {z' : Int} (h : RelA w S nT nR nC rd cd nB bk s P B z) (hr : ∀ o, ((100 ≤ o ∧ o ≤ 131) ∧ o ≠ iW w.2.1 + 3 ∧ o ≠ iW w.2.1 + 4) ∨ o = 137 ∨ o = 141 ∨ o = 142 ∨ o = 152 → S' o = S o) (hm : ∀ k, (17 ≤ k ∧ k ≤ 19) ∨ k = 26 ∨ k = 42 → S' 132 k = S 132 k) (h1 : CS nR nC S' 8 s') (h2 : PC nR nC S' P') (h3 : NwP nR nC S' s') (h4 : PM nR nC S' P') (h5 : Qs rd nR nC s') (h6 : PQ (Qs rd nR nC) P') (h7 : Tx S' 2 B' ∧ Tx S' 134 B' ∧ S' 1 1 = z' ∧ S' 132 2 = z' ∧ 0 ≤ z' ∧ z' ≤ 600) (h8 : S' 0 12 = S' 132 8) (h9 : S' 0 13 = S' 132 32) : RelA w S' nT nR nC rd cd nB bk s' P' B' z' := by
  obtain ⟨⟨hL, hs, hc, hB, hP⟩, ⟨mL, mn, mc, mB, mP⟩, hE, ht, f1, f2⟩ := h
  have eL := iL_c w.1
  have eW := iW_c w.2.1
  have eB := iB_c w.2.2
  refine ⟨⟨CL_of hL (hr _ ?_) (hr _ ?_) (hr _ ?_) (hr _ ?_), h1, CW_of hc ?_ (hr _ ?_) (hr _ ?_), CB_of hB ?_ (hr _ ?_) (hr _ ?_), h2⟩, ⟨LdP_of mL (hm _ (by decide)) (hm _ (by decide)) (hm _ (by decide)) (fun k _ _ => by rw [hr 137 (by omega)]), h3, CdP_of mc (hm _ (by decide)) (hr _ (by omega)) (hr _ (by omega)), BkP_of mB (hm _ (by decide)) (hr _ (by omega)), h4⟩, ⟨hE.1, h5, h6⟩, h7, h8, h9⟩
  all_goals try omega
  · rw [hr (iW w.2.1) (by omega)]
  · rw [hr (iB w.2.2) (by omega)]
theorem Tx_row {S S' : Hp} {o : Nat} {B : Nat → Int} (h : Tx S o B) (e : S' o = S o) : Tx S' o B := ⟨fun k hk => by rw [e]; exact h.1 k hk, h.2⟩
theorem NwP_row {nR nC : Int} {S S' : Hp} {s : Int → Int} (h : NwP nR nC S s) (e : S' 147 = S 147) : NwP nR nC S' s := fun k hk => by rw [e]; exact h k hk
section MUT
variable {X : Nat × (Nat → Int32)} {dd : Nat} {w : Bool × Bool × Bool} {S : Hp} {J : Nat → Nat → Int64}
theorem sim_fault (hR : Rel w S) : OutB X dd w S J 108 170 [] := by
  obtain ⟨nT, nR, nC, rd, cd, nB, bk, s, P, B, z, hA, hk⟩ := hR
  have g1 := c_fault (X := X) (d := dd + 59) (w := w) (S := S) (J := J)
  have g2 := m_fault (X := X) (d := dd + 59) (w := w) (S := S) (J := J)
  have f1 : S 0 12 = S 132 8 := hA.2.2.2.2.1
  rw [← f1] at g2
  exact ⟨_, S, _, g1, g2, (rel_end hA hk (QuM_0 _)).2⟩
theorem sim_status (hR : Rel w S) {p : Int} (ip : I32 p) : OutB X dd w S J 141 267 [.int (zI p)] := by
  obtain ⟨nT, nR, nC, rd, cd, nB, bk, s, P, B, z, hA, hk⟩ := hR
  have g1 := c_status (X := X) (d := dd + 59) (w := w) (S := S) (J := J) p ip
  have g2 := m_status (X := X) (d := dd + 58) (w := w) (S := S) (J := J) p ip
  rw [← hk.1, ← hk.2] at g2
  exact ⟨_, S, _, g1, g2, (rel_end hA hk (QuM_0 _)).2⟩
theorem sim_count (hR : Rel w S) {p : Int} (ip : I32 p) : OutB X dd w S J 142 268 [.int (zI p)] := by
  obtain ⟨nT, nR, nC, rd, cd, nB, bk, s, P, B, z, hA, hk⟩ := hR
  obtain ⟨⟨hL, hs, hc, hB, hP⟩, ⟨mL, mn, mc, mB, mP⟩, hE, ⟨t1, t2, t3, t4, t5⟩, f1, f2⟩ := id hA
  have g1 := c_count (X := X) (d := dd + 59) (w := w) (S := S) (J := J) p ip
  have g2 := m_count (X := X) (d := dd + 59) (w := w) (S := S) (J := J) p ip
  rw [hP.2.1, t3, hP.1.1] at g1
  rw [mP.2.1, t4, mP.1.1] at g2
  exact ⟨_, S, _, g1, g2, (rel_end hA hk (QuM_0 _)).2⟩
theorem sim_undo (hR : Rel w S) : OutB X dd w S J 109 212 [] := by
  obtain ⟨nT, nR, nC, rd, cd, nB, bk, s, P, B, z, hA, hk⟩ := hR
  obtain ⟨⟨hL, hs, hc, hB, hP⟩, ⟨mL, mn, mc, mB, mP⟩, ⟨hE, hq, hQ⟩, ⟨t1, t2, t3, t4, t5⟩, f1, f2⟩ := id hA
  by_cases hW : P.W = 0
  · have g1 := c_undo0 (X := X) (d := dd + 57) (w := w) (S := S) (J := J) hP hW
    have g2 := m_undo0 (X := X) (d := dd + 59) (w := w) (S := S) (J := J) mP hW
    exact ⟨_, S, _, g1, g2, (rel_end hA hk (QuM_0 _)).2⟩
  · have r12 : nR ≤ 12 := hL.2.2.2.2.2.2.2.1
    have r5 : nC ≤ 5 := hL.2.2.2.2.2.2.2.2.2.1
    obtain ⟨S1, g1, a1, a2, a3, a4, a5, a6, a7⟩ := c_undo (X := X) (d := dd + 57) (w := w) (S := S) (J := J) r12 r5 hP hW
    have k1 : ∀ o, (15 < o ∧ o ≠ 26) ∨ (0 < o ∧ o < 8) → S1 o = S o := fun o ho => a3 o (by simp only [List.mem_cons, List.not_mem_nil, or_false]; omega)
    have mP1 : PM nR nC S1 P := PM_of mP (by rw [k1 132 (by omega)]) (by rw [k1 132 (by omega)]) (k1 149 (by omega)) (k1 157 (by omega))
    obtain ⟨S2, g2, b1, b2, b3, b4, b5, b6⟩ := m_undo (X := X) (d := dd + 59) (w := w) (S := S1) (J := J) r12 r5 mP1 hW
    have k2 : ∀ o, o ≠ 132 → o ≠ 147 → S2 o = S1 o := fun o h1 h2 => b3 o (by simp only [List.mem_cons, List.not_mem_nil, or_false]; omega)
    have hq2 : Qs rd nR nC (P.pw (P.W - 1)) := hQ.1.2 _ (by omega)
    have eW := iW_c w.2.1
    have c1 : CS nR nC S2 8 (P.pw (P.W - 1)) := CS_of a2 (by rw [k2 8 (by omega) (by omega)]; exact ⟨rfl, rfl⟩) (fun i i1 i2 => k2 _ (by omega) (by omega))
    have c2 : PC nR nC S2 (Pundo P) := PC_of a1 (by rw [k2 26 (by omega) (by omega)]) (by rw [k2 26 (by omega) (by omega)]) (fun o o1 o2 => k2 _ (by omega) (by omega))
    refine ⟨_, S1, S2, g1, g2, nT, nR, nC, rd, cd, nB, bk, P.pw (P.W - 1), Pundo P, B, z, relA_s hA (fun o ho => by rw [k2 o (by omega) (by omega), k1 o (by omega)]) (fun k hk => by rw [b4 k (by omega) (by omega) (by omega), k1 132 (by omega)]) c1 c2 b2 b1 hq2 (PQ_undo hQ) ⟨Tx_row t1 (by rw [k2 2 (by omega) (by omega), k1 2 (by omega)]), Tx_row t2 (by rw [k2 134 (by omega) (by omega), k1 134 (by omega)]), by rw [k2 1 (by omega) (by omega), k1 1 (by omega)]; exact t3, by rw [b4 2 (by decide) (by decide) (by decide), k1 132 (by omega)]; exact t4, t5⟩ ?_ ?_, ?_, ?_⟩
    · rw [k2 0 (by omega) (by omega), a5 12 (by decide), b4 8 (by decide) (by decide) (by decide), k1 132 (by omega)]
      exact f1
    · rw [k2 0 (by omega) (by omega), a6, b5]
    · rw [k2 0 (by omega) (by omega), a5 14 (by decide), k2 133 (by omega) (by omega), k1 133 (by omega)]
      exact hk.1
    · rw [k2 0 (by omega) (by omega), a5 15 (by decide), k2 133 (by omega) (by omega), k1 133 (by omega)]
      exact hk.2
theorem sim_image (hR : Rel w S) : OutB X dd w S J 139 265 [] := by
  obtain ⟨nT, nR, nC, rd, cd, nB, bk, s, P, B, z, hA, hk⟩ := hR
  obtain ⟨⟨hL, hs, hc, hB, hP⟩, ⟨mL, mn, mc, mB, mP⟩, ⟨hE, hq, hQ⟩, ⟨t1, t2, t3, t4, t5⟩, f1, f2⟩ := id hA
  by_cases hN : P.N = 3
  · have g1 := c_image3 (X := X) (d := dd + 57) (w := w) (S := S) (J := J) hP hN
    have g2 := m_image3 (X := X) (d := dd + 57) (w := w) (S := S) (J := J) mP hN
    exact ⟨_, S, _, g1, g2, (rel_end hA hk (QuM_0 _)).2⟩
  · have r12 : nR ≤ 12 := hL.2.2.2.2.2.2.2.1
    have r5 : nC ≤ 5 := hL.2.2.2.2.2.2.2.2.2.1
    have hN3 : P.N < 3 := by have := hQ.2.1; omega
    obtain ⟨S1, g1, a1, a2, a3⟩ := c_image (X := X) (d := dd + 57) (w := w) (S := S) (J := J) r12 r5 hs hP hN3
    have k1 : ∀ o, o < 26 ∨ (26 < o ∧ o < 45) ∨ 96 < o → S1 o = S o := fun o ho => a2 o (by omega) (by omega)
    have mn1 : NwP nR nC S1 s := NwP_row mn (k1 147 (by omega))
    have mP1 : PM nR nC S1 P := PM_of mP (by rw [k1 132 (by omega)]) (by rw [k1 132 (by omega)]) (k1 149 (by omega)) (k1 157 (by omega))
    obtain ⟨S2, g2, b1, b2, b3, b4⟩ := m_image (X := X) (d := dd + 57) (w := w) (S := S1) (J := J) r12 r5 mn1 mP1 hN3
    have k2 : ∀ o, o ≠ 132 → o ≠ 157 → S2 o = S1 o := fun o h1 h2 => b2 o (by simp only [List.mem_cons, List.not_mem_nil, or_false]; omega)
    have eW := iW_c w.2.1
    have c1 : CS nR nC S2 8 s := CS_of hs (by rw [k2 8 (by omega) (by omega), k1 8 (by omega)]; exact ⟨rfl, rfl⟩) (fun i i1 i2 => by rw [k2 _ (by omega) (by omega), k1 _ (by omega)])
    have c2 : PC nR nC S2 (Pimg P s) := PC_of a1 (by rw [k2 26 (by omega) (by omega)]) (by rw [k2 26 (by omega) (by omega)]) (fun o o1 o2 => k2 _ (by omega) (by omega))
    refine ⟨_, S1, S2, g1, g2, nT, nR, nC, rd, cd, nB, bk, s, Pimg P s, B, z, relA_s hA (fun o ho => by rw [k2 o (by omega) (by omega), k1 o (by omega)]) (fun k hk => by rw [b3 k (by omega) (by omega), k1 132 (by omega)]) c1 c2 (NwP_row mn1 (k2 147 (by omega) (by omega))) b1 hq (PQ_img hQ hN3 hq) ⟨Tx_row t1 (by rw [k2 2 (by omega) (by omega), k1 2 (by omega)]), Tx_row t2 (by rw [k2 134 (by omega) (by omega), k1 134 (by omega)]), by rw [k2 1 (by omega) (by omega), k1 1 (by omega)]; exact t3, by rw [b3 2 (by decide) (by decide), k1 132 (by omega)]; exact t4, t5⟩ ?_ ?_, ?_, ?_⟩
    · rw [k2 0 (by omega) (by omega), k1 0 (by omega), b3 8 (by decide) (by decide), k1 132 (by omega)]
      exact f1
    · rw [k2 0 (by omega) (by omega), k1 0 (by omega), b3 32 (by decide) (by decide), k1 132 (by omega)]
      exact f2
    · rw [k2 0 (by omega) (by omega), k1 0 (by omega), k2 133 (by omega) (by omega), k1 133 (by omega)]
      exact hk.1
    · rw [k2 0 (by omega) (by omega), k1 0 (by omega), k2 133 (by omega) (by omega), k1 133 (by omega)]
      exact hk.2
theorem sim_restore (hR : Rel w S) : OutB X dd w S J 140 266 [] := by
  obtain ⟨nT, nR, nC, rd, cd, nB, bk, s, P, B, z, hA, hk⟩ := hR
  obtain ⟨⟨hL, hs, hc, hB, hP⟩, ⟨mL, mn, mc, mB, mP⟩, ⟨hE, hq, hQ⟩, ⟨t1, t2, t3, t4, t5⟩, f1, f2⟩ := id hA
  by_cases hN : P.N = 0
  · have g1 := c_restore0 (X := X) (d := dd + 57) (w := w) (S := S) (J := J) hP hN
    have g2 := m_restore0 (X := X) (d := dd + 57) (w := w) (S := S) (J := J) mP hN
    exact ⟨_, S, _, g1, g2, (rel_end hA hk (QuM_0 _)).2⟩
  · have r12 : nR ≤ 12 := hL.2.2.2.2.2.2.2.1
    have r5 : nC ≤ 5 := hL.2.2.2.2.2.2.2.2.2.1
    obtain ⟨S1, g1, a1, a2, a3, a4, a5, a6, a7⟩ := c_restore (X := X) (d := dd + 57) (w := w) (S := S) (J := J) r12 r5 hP hN
    have k1 : ∀ o, (0 < o ∧ o < 8) ∨ (15 < o ∧ o < 26) ∨ (43 < o) → S1 o = S o := fun o ho => a3 o (by omega) (by omega) (by omega) (by omega)
    have mP1 : PM nR nC S1 P := PM_of mP (by rw [k1 132 (by omega)]) (by rw [k1 132 (by omega)]) (k1 149 (by omega)) (k1 157 (by omega))
    obtain ⟨S2, g2, b1, b2, b3, b4, b5, b6⟩ := m_restore (X := X) (d := dd + 57) (w := w) (S := S1) (J := J) r12 r5 mP1 hN
    have k2 : ∀ o, o ≠ 132 → o ≠ 147 → o ≠ 149 → S2 o = S1 o := fun o h1 h2 h3 => b3 o (by simp only [List.mem_cons, List.not_mem_nil, or_false]; omega)
    have hq2 : Qs rd nR nC (P.im (P.N - 1)) := (hQ.2.2 _ (by omega)).1
    have eW := iW_c w.2.1
    have c1 : CS nR nC S2 8 (P.im (P.N - 1)) := CS_of a2 (by rw [k2 8 (by omega) (by omega) (by omega)]; exact ⟨rfl, rfl⟩) (fun i i1 i2 => k2 _ (by omega) (by omega) (by omega))
    have c2 : PC nR nC S2 (Prst P) := PC_of a1 (by rw [k2 26 (by omega) (by omega) (by omega)]) (by rw [k2 26 (by omega) (by omega) (by omega)]) (fun o o1 o2 => k2 _ (by omega) (by omega) (by omega))
    refine ⟨_, S1, S2, g1, g2, nT, nR, nC, rd, cd, nB, bk, P.im (P.N - 1), Prst P, B, z, relA_s hA (fun o ho => by rw [k2 o (by omega) (by omega) (by omega), k1 o (by omega)]) (fun k hk => by rw [b4 k (by omega) (by omega) (by omega) (by omega), k1 132 (by omega)]) c1 c2 b2 b1 hq2 (PQ_rst hQ hN) ⟨Tx_row t1 (by rw [k2 2 (by omega) (by omega) (by omega), k1 2 (by omega)]), Tx_row t2 (by rw [k2 134 (by omega) (by omega) (by omega), k1 134 (by omega)]), by rw [k2 1 (by omega) (by omega) (by omega), k1 1 (by omega)]; exact t3, by rw [b4 2 (by decide) (by decide) (by decide) (by decide), k1 132 (by omega)]; exact t4, t5⟩ ?_ ?_, ?_, ?_⟩
    · rw [k2 0 (by omega) (by omega) (by omega), a5 12 (by decide), b4 8 (by decide) (by decide) (by decide) (by decide), k1 132 (by omega)]
      exact f1
    · rw [k2 0 (by omega) (by omega) (by omega), a6, b5]
    · rw [k2 0 (by omega) (by omega) (by omega), a5 14 (by decide), k2 133 (by omega) (by omega) (by omega), k1 133 (by omega)]
      exact hk.1
    · rw [k2 0 (by omega) (by omega) (by omega), a5 15 (by decide), k2 133 (by omega) (by omega) (by omega), k1 133 (by omega)]
      exact hk.2
theorem fdV_r (a b c x y : Int32) (k : Nat) : 0 ≤ fdV a b c x y k ∧ fdV a b c x y k < 256 := by
  unfold fdV
  exact fdB_r _ _
theorem sim_feed (hR : Rel w S) (a b c x y : Int32) : OutB X dd w S J 103 156 [.int a, .int b, .int c, .int x, .int y] := by
  obtain ⟨nT, nR, nC, rd, cd, nB, bk, s, P, B, z, hA, hk⟩ := hR
  obtain ⟨⟨hL, hs, hc, hB, hP⟩, ⟨mL, mn, mc, mB, mP⟩, ⟨hE, hq, hQ⟩, ⟨t1, t2, t3, t4, t5⟩, f1, f2⟩ := id hA
  by_cases h : z + 20 ≤ 600
  · have g1 := c_feed (X := X) (d := dd + 58) (w := w) (S := S) (J := J) a b c x y t3 ⟨t5.1, h⟩
    have k1 : ∀ o, o ≠ 1 → o ≠ 2 → fS S 2 1 1 z (fdV a b c x y) 20 o = S o := fun o h1 h2 => fS_row (S := S) (o := 2) (r := 1) (c := 1) (z := z) (V := fdV a b c x y) h2 h1 20
    have u1 : fS S 2 1 1 z (fdV a b c x y) 20 1 1 = z + 20 := fS_c (S := S) (o := 2) (r := 1) (c := 1) (z := z) (V := fdV a b c x y) t3 20
    have u2 : Tx (fS S 2 1 1 z (fdV a b c x y) 20) 2 (fdT B z (fdV a b c x y)) := fS_T (S := S) (o := 2) (r := 1) (c := 1) (z := z) (V := fdV a b c x y) (by decide) t1 (fdV_r a b c x y)
    generalize hS1 : fS S 2 1 1 z (fdV a b c x y) 20 = S1 at g1 k1 u1 u2
    have t4' : S1 132 2 = z := by rw [k1 132 (by decide) (by decide)]; exact t4
    have g2 := m_feed (X := X) (d := dd + 59) (w := w) (S := S1) (J := J) a b c x y t4' ⟨t5.1, h⟩
    have k2 : ∀ o, o ≠ 134 → o ≠ 132 → fS (uS S1 132 0 0) 134 132 2 z (fdV a b c x y) 20 o = S1 o := fun o h1 h2 => (fS_row (S := uS S1 132 0 0) (o := 134) (r := 132) (c := 2) (z := z) (V := fdV a b c x y) h1 h2 20).trans (uS_row _ _ _ h2)
    have v0 : (uS S1 132 0 0) 132 2 = z := by rw [uS_ne _ _ (Or.inr (by decide))]; exact t4'
    have v1 : fS (uS S1 132 0 0) 134 132 2 z (fdV a b c x y) 20 132 2 = z + 20 := fS_c (S := uS S1 132 0 0) (o := 134) (r := 132) (c := 2) (z := z) (V := fdV a b c x y) v0 20
    have v2 : Tx (fS (uS S1 132 0 0) 134 132 2 z (fdV a b c x y) 20) 134 (fdT B z (fdV a b c x y)) := fS_T (S := uS S1 132 0 0) (o := 134) (r := 132) (c := 2) (z := z) (V := fdV a b c x y) (by decide) (Tx_row (Tx_row t2 (k1 134 (by decide) (by decide))) (uS_row _ _ _ (by decide))) (fdV_r a b c x y)
    have v3 : ∀ k, k ≠ 0 → k ≠ 2 → fS (uS S1 132 0 0) 134 132 2 z (fdV a b c x y) 20 132 k = S 132 k := fun k h1 h2 => (fS_k (S := uS S1 132 0 0) (o := 134) (r := 132) (c := 2) (z := z) (V := fdV a b c x y) (by decide) h2 20).trans ((uS_ne _ _ (Or.inr h1)).trans (by rw [k1 132 (by decide) (by decide)]))
    generalize hS2 : fS (uS S1 132 0 0) 134 132 2 z (fdV a b c x y) 20 = S2 at g2 k2 v1 v2 v3
    have kk : ∀ o, o ≠ 1 → o ≠ 2 → o ≠ 134 → o ≠ 132 → S2 o = S o := fun o h1 h2 h3 h4 => (k2 o h3 h4).trans (k1 o h1 h2)
    refine ⟨_, S1, S2, g1, g2, nT, nR, nC, rd, cd, nB, bk, s, P, fdT B z (fdV a b c x y), z + 20, relA_s hA (fun o ho => kk o (by omega) (by omega) (by omega) (by omega)) (fun k hk => v3 k (by omega) (by omega)) (CS_of hs (by rw [kk 8 (by omega) (by omega) (by omega) (by omega)]; exact ⟨rfl, rfl⟩) (fun i i1 i2 => kk _ (by omega) (by omega) (by omega) (by omega))) (PC_of hP (by rw [kk 26 (by omega) (by omega) (by omega) (by omega)]) (by rw [kk 26 (by omega) (by omega) (by omega) (by omega)]) (fun o o1 o2 => kk _ (by omega) (by omega) (by omega) (by omega))) (NwP_row mn (kk 147 (by omega) (by omega) (by omega) (by omega))) (PM_of mP (v3 _ (by decide) (by decide)) (v3 _ (by decide) (by decide)) (kk 149 (by omega) (by omega) (by omega) (by omega)) (kk 157 (by omega) (by omega) (by omega) (by omega))) hq hQ ⟨Tx_row u2 (k2 2 (by decide) (by decide)), v2, by rw [k2 1 (by decide) (by decide)]; exact u1, v1, by omega, h⟩ ?_ ?_, ?_, ?_⟩
    · rw [kk 0 (by omega) (by omega) (by omega) (by omega), v3 8 (by decide) (by decide)]
      exact f1
    · rw [kk 0 (by omega) (by omega) (by omega) (by omega), v3 32 (by decide) (by decide)]
      exact f2
    · rw [kk 0 (by omega) (by omega) (by omega) (by omega), kk 133 (by omega) (by omega) (by omega) (by omega)]
      exact hk.1
    · rw [kk 0 (by omega) (by omega) (by omega) (by omega), kk 133 (by omega) (by omega) (by omega) (by omega)]
      exact hk.2
  · have g1 := c_feed0 (X := X) (d := dd + 58) (w := w) (S := S) (J := J) a b c x y t3 (by omega)
    have g2 := m_feed0 (X := X) (d := dd + 59) (w := w) (S := S) (J := J) a b c x y t4 (by omega)
    exact ⟨_, S, _, g1, g2, (rel_end hA hk (QuM_0 _)).2⟩
end MUT
