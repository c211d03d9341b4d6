/-! TEXTS: land, law, work and book, the class and the reference side by side -/
section TXS
variable {cd : List (Int × Int)} {rd : Int → Int} {nR nC : Int}
theorem do_50 {s : Int → Int} (hR : nR ≤ 12) (hC : nC ≤ 5) {k a b : Int} (hok : okst nC nR k a b) (h : s 50 ≤ 5600) : (if canDo rd s k a b = true then doF cd rd nR nC s k a b else s) 50 ≤ 5600 := by
  by_cases q : canDo rd s k a b = true
  · rw [if_pos q]
    rcases hok with ⟨rfl, h1, h2, -⟩ | ⟨rfl, h1, h2, -⟩ | ⟨rfl, h1, h2, -⟩ | ⟨rfl, h1, h2, -⟩ | ⟨rfl, -⟩
    · have e : doF cd rd nR nC s 0 a b = setF rd s a b := rfl
      rw [e, setF_o _ _ (by omega)]
      exact h
    · have e : doF cd rd nR nC s 1 a b = turnF rd s a := rfl
      rw [e, turnF_o _ _ (by omega)]
      exact h
    · have e : doF cd rd nR nC s 2 a b = pu s (44 + a) b := rfl
      rw [e, pu_o _ (by omega)]
      exact h
    · have e : doF cd rd nR nC s 3 a b = pu s a b := rfl
      rw [e, pu_o _ (by omega)]
      exact h
    · have e : doF cd rd nR nC s 4 a b = hourF cd rd nR nC s := rfl
      have e2 : canDo rd s 4 a b = decide (s 50 < 5600) := rfl
      rw [e2] at q
      have q := of_decide_eq_true q
      rw [e, hourF_50]
      omega
  · rw [if_neg q]
    exact h
theorem goT_50 {f : GSt → GSt} (hf : ∀ x : GSt, x.1 50 ≤ 5600 → (f x).1 50 ≤ 5600) : ∀ (k : Nat) (x : GSt), x.1 50 ≤ 5600 → (goT f k x).1 50 ≤ 5600
  | 0, _, h => h
  | k + 1, x, h => goT_50 hf k (f x) (hf x h)
theorem goF_50 (hR : nR ≤ 12) (hC : nC ≤ 5) : ∀ (n r : Nat) (L : List Tk), OkN nC nR n r L → ∀ x : GSt, x.1 50 ≤ 5600 → (goF cd rd nR nC n L x).1 50 ≤ 5600
  | 0, _, _, _, _, h => h
  | n + 1, r, L, hL, x, h => by
    by_cases hf : 200 ≤ x.2.1
    · rw [goF_full _ _ _ hf]
      exact h
    · rcases hL with hL | ⟨k, a, b, t, hL, hok, hL2⟩ | ⟨m, b, t, hL, hm, hr1, hLb, hLt⟩
      · subst hL
        rw [goF_nil]
        exact h
      · subst hL
        have hkk : k ≠ 5 := by
          rcases hok with ⟨h1, -⟩ | ⟨h1, -⟩ | ⟨h1, -⟩ | ⟨h1, -⟩ | ⟨h1, -⟩ <;> omega
        rw [goF_st hkk hf]
        refine goF_50 hR hC n r t hL2 _ ?_
        rw [gst_s]
        exact do_50 hR hC hok h
      · subst hL
        rw [goF_ag hf]
        exact goF_50 hR hC n r t hLt _ (goT_50 (fun y hy => goF_50 hR hC n (r - 1) b hLb y hy) _ _ h)
end TXS
section TXT2
variable {X : Nat × (Nat → Int32)} {dd : Nat} {w : Bool × Bool × Bool} {S : Hp} {J : Nat → Nat → Int64}
theorem sim_work (hR : Rel w S) {n : Int} (hb : I32 n) : Out X dd w S J 106 195 [.int (zI n)] oneB false := by
  obtain ⟨nT, nR, nC, rd, cd, nB, bk, s, P, B, z, hA, hk⟩ := hR
  obtain ⟨⟨hL, hs, hc, hB, hP⟩, ⟨mL, mn, mc, mB, mP⟩, ⟨hE, hq, hQ⟩, ⟨t1, t2, t3, t4, t5⟩, f1, f2⟩ := id hA
  have r12 : nR ≤ 12 := hL.2.2.2.2.2.2.2.1
  have r0 : 0 ≤ nR := hL.2.2.2.2.2.2.1
  have r5 : nC ≤ 5 := hL.2.2.2.2.2.2.2.2.2.1
  have r50 : 0 ≤ nC := hL.2.2.2.2.2.2.2.2.1
  have hrd : Rd nR rd := hL.2.2.2.2.2.2.2.2.2.2
  have eL := iL_c w.1
  have eW := iW_c w.2.1
  have eB := iB_c w.2.2
  by_cases hn : 0 ≤ n ∧ n ≤ min z 150
  · by_cases hW : P.W = 16
    · obtain ⟨S1, g1, a1, a2, a3, a4⟩ := c_workN (X := X) w J t1 t3 t5 hn hP hW
      have k1 : ∀ o, 1 < o → S1 o = S o := fun o ho => a1 o (by simp only [List.mem_cons, List.not_mem_nil, or_false]; omega)
      have mP1 : PM nR nC S1 P := PM_of mP (by rw [k1 132 (by omega)]) (by rw [k1 132 (by omega)]) (k1 149 (by omega)) (k1 157 (by omega))
      refine Or.inl ⟨_, w, S1, fun _ => rfl, g1 (dd + 19), fun J2 => ?_⟩
      obtain ⟨S2, g2, b1, b2, b3, b4, b5⟩ := m_workN (X := X) (S := S1) (n := n) (tp := z) (Tx_row t2 (k1 134 (by omega))) (by rw [k1 132 (by omega)]; exact t4) t5 hn mP1 hW w J2
      have k2 : ∀ o, o ≠ 132 → S2 o = S1 o := fun o h1 => b1 o (by simp only [List.mem_cons, List.not_mem_nil, or_false]; omega)
      have kk : ∀ o, 1 < o → o ≠ 132 → S2 o = S o := fun o h1 h2 => (k2 o h2).trans (k1 o h1)
      have km : ∀ k, 8 < k → S2 132 k = S 132 k := fun k h1 => by rw [b5 k (Or.inr h1), k1 132 (by omega)]
      refine ⟨S2, g2 (dd + 20), b4, nT, nR, nC, rd, cd, nB, bk, s, P, B, 0, relA_s hA (fun o ho => kk o (by omega) (by omega)) (fun k hk => km k (by omega)) (CS_of hs (by rw [kk 8 (by omega) (by omega)]; exact ⟨rfl, rfl⟩) (fun i i1 i2 => kk _ (by omega) (by omega))) (PC_of hP (by rw [kk 26 (by omega) (by omega)]) (by rw [kk 26 (by omega) (by omega)]) (fun o o1 o2 => kk _ (by omega) (by omega))) (NwP_row mn (kk 147 (by omega) (by omega))) (PM_of mP (km _ (by decide)) (km _ (by decide)) (kk 149 (by omega) (by omega)) (kk 157 (by omega) (by omega))) hq hQ ⟨Tx_row t1 (kk 2 (by omega) (by omega)), Tx_row t2 (kk 134 (by omega) (by omega)), by rw [k2 1 (by omega)]; exact a2, b3, by decide, by decide⟩ ?_ ?_, ?_, ?_⟩
      · rw [k2 0 (by omega), a3, b2]
      · rw [k2 0 (by omega), a4 13 (by decide), km 32 (by decide)]
        exact f2
      · rw [k2 0 (by omega), a4 14 (by decide), kk 133 (by omega) (by omega)]
        exact hk.1
      · rw [k2 0 (by omega), a4 15 (by decide), kk 133 (by omega) (by omega)]
        exact hk.2
    · have hW2 : P.W < 16 := by have := hQ.1.1; omega
      obtain ⟨out, hwf, hcr, hmr⟩ := wk_both X B w.1 (e := n.toNat) (nc := nC) (nr := nR) (by omega) (by omega) (by omega)
      obtain ⟨kf, hkf⟩ : ∃ kf : Nat, ∀ y, out = .inr y → OkN nC nR kf 6 y.1 := by
        cases hout : out with
        | inl f => exact ⟨0, fun y hy => by cases hy⟩
        | inr y =>
          rw [hout] at hwf
          obtain ⟨-, kf, hkf⟩ := hwf
          exact ⟨kf, fun y' hy => by injection hy with hy; subst hy; exact hkf⟩
      obtain ⟨S1, a1, a2, a3, a4, a5⟩ := c_work (X := X) (d := dd + 19) w J t1 t3 t5 hn hL hrd hs hq.1 hc hP hW2 hwf hkf hcr
      have k1 : ∀ o, (15 < o ∧ o ≠ 26 ∧ o ≠ iW w.2.1 + 3 ∧ o ≠ iW w.2.1 + 4 ∧ o ≠ 28 + P.W) ∨ o = 2 → S1 o = S o := fun o ho => a3 o (by simp only [List.mem_cons, List.not_mem_nil, or_false]; omega)
      have e132 : S1 132 = S 132 := k1 132 (by omega)
      have mL1 : LdP S1 nT nR nC rd := LdP_of mL (by rw [e132]) (by rw [e132]) (by rw [e132]) (fun k _ _ => by rw [k1 137 (by omega)])
      have mn1 : NwP nR nC S1 s := NwP_row mn (k1 147 (by omega))
      have mc1 : CdP S1 cd := CdP_of mc (by rw [e132]) (k1 141 (by omega)) (k1 142 (by omega))
      have mP1 : PM nR nC S1 P := PM_of mP (by rw [e132]) (by rw [e132]) (k1 149 (by omega)) (k1 157 (by omega))
      have hnn : ((n.toNat : Nat) : Int) = n := by omega
      have hM := fun J2 => m_work (X := X) (d := dd + 20) (S := S1) (tp := z) (e := n.toNat) (Tx_row t2 (k1 134 (by omega))) (by rw [e132]; exact t4) t5 (by omega) mL1 mn1 hq.1 mc1 mP1 hW2 hwf hkf hmr w J2
      rw [hnn] at hM
      have g0 : S1 0 14 = S 0 14 ∧ S1 0 15 = S 0 15 := ⟨a5 14 (by decide) (by decide), a5 15 (by decide) (by decide)⟩
      cases hout : out with
      | inl f =>
        obtain ⟨y1, y2, y3, y4⟩ := a1 f hout
        have k1' : ∀ o, 6 < o ∨ o = 2 → S1 o = S o := fun o ho => y4 o (by simp only [List.mem_cons, List.not_mem_nil, or_false]; omega)
        refine Or.inl ⟨_, w, S1, fun _ => rfl, y1, fun J2 => ?_⟩
        obtain ⟨S2, b1, -, b3, b4, b5, b6⟩ := hM J2
        obtain ⟨x1, x2, x3, x4, x5⟩ := b1 f hout
        have k2 : ∀ o, o ≠ 132 → o ≠ 145 → S2 o = S1 o := fun o h1 h2 => x3 o (by simp only [List.mem_cons, List.not_mem_nil, or_false]; omega)
        have kk : ∀ o, 6 < o ∨ o = 2 → o ≠ 132 → o ≠ 145 → S2 o = S o := fun o h1 h2 h3 => (k2 o h2 h3).trans (k1' o h1)
        have km : ∀ k, 8 < k → k < 30 ∨ 35 < k → S2 132 k = S 132 k := fun k h1 h2 => by rw [b6 k (Or.inr h1) h2, e132]
        refine ⟨S2, x1, b5, nT, nR, nC, rd, cd, nB, bk, s, P, B, 0, relA_s hA (fun o ho => kk o (by omega) (by omega) (by omega)) (fun k hk => km k (by omega) (by omega)) (CS_of hs (by rw [kk 8 (by omega) (by omega) (by omega)]; exact ⟨rfl, rfl⟩) (fun i i1 i2 => kk _ (by omega) (by omega) (by omega))) (PC_of hP (by rw [kk 26 (by omega) (by omega) (by omega)]) (by rw [kk 26 (by omega) (by omega) (by omega)]) (fun o o1 o2 => kk _ (by omega) (by omega) (by omega))) (NwP_row mn (kk 147 (by omega) (by omega) (by omega))) (PM_of mP (by rw [x4, e132]) (km _ (by decide) (by decide)) (kk 149 (by omega) (by omega) (by omega)) (kk 157 (by omega) (by omega) (by omega))) hq hQ ⟨Tx_row t1 (kk 2 (by omega) (by omega) (by omega)), Tx_row t2 (kk 134 (by omega) (by omega) (by omega)), by rw [k2 1 (by omega) (by omega)]; exact a4, b4, by decide, by decide⟩ ?_ ?_, ?_, ?_⟩
        · rw [k2 0 (by omega) (by omega), y2, x2]
        · rw [k2 0 (by omega) (by omega), y3, x5, e132]
          exact f2
        · rw [k2 0 (by omega) (by omega), g0.1, kk 133 (by omega) (by omega) (by omega)]
          exact hk.1
        · rw [k2 0 (by omega) (by omega), g0.2, kk 133 (by omega) (by omega) (by omega)]
          exact hk.2
      | inr y =>
        obtain ⟨y1, y2, y3, y4, y5, y6⟩ := a2 y hout
        have hq2 : Qs rd nR nC (goF cd rd nR nC kf y.1 (s, 0, 0, 0)).1 := ⟨y5, goF_50 r12 r5 kf 6 y.1 (hkf y hout) _ hq.2⟩
        refine Or.inl ⟨_, w, S1, fun _ => rfl, y1, fun J2 => ?_⟩
        obtain ⟨S2, -, b2, b3, b4, b5, b6⟩ := hM J2
        obtain ⟨x1, x2, x3, x4, x5⟩ := b2 y hout
        have k2 : ∀ o, o ≠ 132 → ¬ (143 ≤ o ∧ o ≤ 150) → S2 o = S1 o := fun o h1 h2 => b3 o (by simp only [List.mem_cons, List.not_mem_nil, or_false]; omega)
        have km : ∀ k, 8 < k → k < 30 ∨ 35 < k → S2 132 k = S 132 k := fun k h1 h2 => by rw [b6 k (Or.inr h1) h2, e132]
        have hW3 := hQ.1.1
        refine ⟨S2, x1, b5, nT, nR, nC, rd, cd, nB, bk, (goF cd rd nR nC kf y.1 (s, 0, 0, 0)).1, Pwork P s, B, 0, relA_s hA (fun o ho => by rw [k2 o (by omega) (by omega), k1 o (by omega)]) (fun k hk => km k (by omega) (by omega)) (CS_of y4 (by rw [k2 8 (by omega) (by omega)]; exact ⟨rfl, rfl⟩) (fun i i1 i2 => k2 _ (by omega) (by omega))) (PC_of y6 (by rw [k2 26 (by omega) (by omega)]) (by rw [k2 26 (by omega) (by omega)]) (fun o o1 o2 => k2 _ (by omega) (by omega))) x4 x5 hq2 (PQ_work hQ hW2 hq) ⟨Tx_row t1 (by rw [k2 2 (by omega) (by omega), k1 2 (by omega)]), Tx_row t2 (by rw [k2 134 (by omega) (by omega), k1 134 (by omega)]), by rw [k2 1 (by omega) (by omega)]; exact a4, b4, by decide, by decide⟩ ?_ ?_, ?_, ?_⟩
        · rw [k2 0 (by omega) (by omega), y2, x2]
        · rw [k2 0 (by omega) (by omega), y3, x3]
        · rw [k2 0 (by omega) (by omega), g0.1, k2 133 (by omega) (by omega), k1 133 (by omega)]
          exact hk.1
        · rw [k2 0 (by omega) (by omega), g0.2, k2 133 (by omega) (by omega), k1 133 (by omega)]
          exact hk.2
  · exact out_B hA hk (c := 1) rfl (by decide) (c_workB (X := X) (d := dd + 19) (w := w) (S := S) (J := J) t3 t5 hb hn) (fun J2 => m_workB (X := X) (d := dd + 51) (w := w) (S := xbS S) (J := J2) (tp := z) (by unfold xbS; rw [uS_ne _ _ (Or.inl (by decide))]; exact t4) hb t5 hn)
theorem sim_book (hR : Rel w S) {n : Int} (hb : I32 n) : Out X dd w S J 107 211 [.int (zI n)] oneB true := by
  obtain ⟨nT, nR, nC, rd, cd, nB, bk, s, P, B, z, hA, hk⟩ := hR
  obtain ⟨⟨hL, hs, hc, hB, hP⟩, ⟨mL, mn, mc, mB, mP⟩, ⟨hE, hq, hQ⟩, ⟨t1, t2, t3, t4, t5⟩, f1, f2⟩ := id hA
  have r12 : nR ≤ 12 := hL.2.2.2.2.2.2.2.1
  have r0 : 0 ≤ nR := hL.2.2.2.2.2.2.1
  have r5 : nC ≤ 5 := hL.2.2.2.2.2.2.2.2.2.1
  have r50 : 0 ≤ nC := hL.2.2.2.2.2.2.2.2.1
  have hrd : Rd nR rd := hL.2.2.2.2.2.2.2.2.2.2
  have eL := iL_c w.1
  have eW := iW_c w.2.1
  have eB := iB_c w.2.2
  by_cases hn : 0 ≤ n ∧ n ≤ min z 60
  · obtain ⟨S1, a1, a2, a3, a4, a5⟩ := c_book (X := X) w J t1 t3 t5 hn
    have eB2 := iB_c (!w.2.2)
    have eBn := iB_n w.2.2
    have k1 : ∀ o, 1 < o → o ≠ iB (!w.2.2) → o ≠ iB (!w.2.2) + 1 → o ≠ iB (!w.2.2) + 2 → S1 o = S o := fun o h1 h2 h3 h4 => a3 o (by simp only [List.mem_cons, List.not_mem_nil, or_false]; omega)
    have e132 : S1 132 = S 132 := k1 132 (by omega) (by omega) (by omega) (by omega)
    have hM := fun w' J2 => m_book (X := X) (S := S1) (n := n) (tp := z) w' J2 (Tx_row t2 (k1 134 (by omega) (by omega) (by omega) (by omega))) (by rw [e132]; exact t4) t5 hn
    have g0 : S1 0 14 = S 0 14 ∧ S1 0 15 = S 0 15 ∧ S1 0 13 = S 0 13 := ⟨a5 14 (by decide), a5 15 (by decide), a5 13 (by decide)⟩
    cases hout : bkAll B n.toNat with
    | inl f =>
      obtain ⟨y1, y2⟩ := a1 f hout
      refine Or.inl ⟨_, w, S1, fun _ => rfl, y1 (dd + 53), fun J2 => ?_⟩
      obtain ⟨S2, b1, -, b3, b4, b5, b6⟩ := hM w J2
      obtain ⟨x1, x2, x3, x4⟩ := b1 f hout
      have k2 : ∀ o, o ≠ 132 → o ≠ 151 → S2 o = S1 o := fun o h1 h2 => by
        by_cases h3 : o = 152
        · rw [h3]; exact x4
        · exact b3 o (by simp only [List.mem_cons, List.not_mem_nil, or_false]; omega)
      have kk : ∀ o, 1 < o → o ≠ iB (!w.2.2) → o ≠ iB (!w.2.2) + 1 → o ≠ iB (!w.2.2) + 2 → o ≠ 132 → o ≠ 151 → S2 o = S o := fun o h1 h2 h3 h4 h5 h6 => (k2 o h5 h6).trans (k1 o h1 h2 h3 h4)
      have km : ∀ k, 8 < k → S2 132 k = S 132 k := fun k h1 => by
        by_cases h2 : k = 42
        · rw [h2, x3, e132]
        · rw [b6 k (Or.inr h1) h2, e132]
      have hB2 : CB S2 (iB w.2.2) nB bk := CB_of hB (by rw [kk (iB w.2.2) (by omega) (by omega) (by omega) (by omega) (by omega) (by omega)]) (kk _ (by omega) (by omega) (by omega) (by omega) (by omega) (by omega)) (kk _ (by omega) (by omega) (by omega) (by omega) (by omega) (by omega))
      have e8 := kk 8 (by omega) (by omega) (by omega) (by omega) (by omega) (by omega)
      have e26 := kk 26 (by omega) (by omega) (by omega) (by omega) (by omega) (by omega)
      have eWr := kk (iW w.2.1) (by omega) (by omega) (by omega) (by omega) (by omega) (by omega)
      have e137 := kk 137 (by omega) (by omega) (by omega) (by omega) (by omega) (by omega)
      refine ⟨S2, x1 _, b5, nT, nR, nC, rd, cd, nB, bk, s, P, B, 0, ⟨⟨CL_of hL (kk _ (by omega) (by omega) (by omega) (by omega) (by omega) (by omega)) (kk _ (by omega) (by omega) (by omega) (by omega) (by omega) (by omega)) (kk _ (by omega) (by omega) (by omega) (by omega) (by omega) (by omega)) (kk _ (by omega) (by omega) (by omega) (by omega) (by omega) (by omega)), CS_of hs (by rw [e8]; exact ⟨rfl, rfl⟩) (fun i i1 i2 => kk _ (by omega) (by omega) (by omega) (by omega) (by omega) (by omega)), CW_of hc (by rw [eWr]) (kk _ (by omega) (by omega) (by omega) (by omega) (by omega) (by omega)) (kk _ (by omega) (by omega) (by omega) (by omega) (by omega) (by omega)), hB2, PC_of hP (by rw [e26]) (by rw [e26]) (fun o o1 o2 => kk _ (by omega) (by omega) (by omega) (by omega) (by omega) (by omega))⟩, ⟨LdP_of mL (km _ (by decide)) (km _ (by decide)) (km _ (by decide)) (fun k _ _ => by rw [e137]), NwP_row mn (kk _ (by omega) (by omega) (by omega) (by omega) (by omega) (by omega)), CdP_of mc (km _ (by decide)) (kk _ (by omega) (by omega) (by omega) (by omega) (by omega) (by omega)) (kk _ (by omega) (by omega) (by omega) (by omega) (by omega) (by omega)), BkP_of mB (km _ (by decide)) (kk _ (by omega) (by omega) (by omega) (by omega) (by omega) (by omega)), PM_of mP (km _ (by decide)) (km _ (by decide)) (kk _ (by omega) (by omega) (by omega) (by omega) (by omega) (by omega)) (kk _ (by omega) (by omega) (by omega) (by omega) (by omega) (by omega))⟩, ⟨hE, hq, hQ⟩, ⟨Tx_row t1 (kk _ (by omega) (by omega) (by omega) (by omega) (by omega) (by omega)), Tx_row t2 (kk _ (by omega) (by omega) (by omega) (by omega) (by omega) (by omega)), by rw [k2 1 (by omega) (by omega)]; exact a4, b4, by decide, by decide⟩, ?_, ?_⟩, ?_, ?_⟩
      · rw [k2 0 (by omega) (by omega), y2, x2]
      · rw [k2 0 (by omega) (by omega), g0.2.2, km 32 (by decide)]
        exact f2
      · rw [k2 0 (by omega) (by omega), g0.1, kk 133 (by omega) (by omega) (by omega) (by omega) (by omega) (by omega)]
        exact hk.1
      · rw [k2 0 (by omega) (by omega), g0.2.1, kk 133 (by omega) (by omega) (by omega) (by omega) (by omega) (by omega)]
        exact hk.2
    | inr x =>
      obtain ⟨y1, y2, y3⟩ := a2 x hout
      refine Or.inl ⟨_, (w.1, w.2.1, !w.2.2), S1, fun z => (by cases z), y1 (dd + 53), fun J2 => ?_⟩
      obtain ⟨S2, -, b2, b3, b4, b5, b6⟩ := hM (w.1, w.2.1, !w.2.2) J2
      obtain ⟨x1, x2, x3⟩ := b2 x hout
      have k2 : ∀ o, o ≠ 132 → o ≠ 151 → o ≠ 152 → S2 o = S1 o := fun o h1 h2 h3 => b3 o (by simp only [List.mem_cons, List.not_mem_nil, or_false]; omega)
      have kk : ∀ o, 1 < o → o ≠ iB (!w.2.2) → o ≠ iB (!w.2.2) + 1 → o ≠ iB (!w.2.2) + 2 → o ≠ 132 → o ≠ 151 ∧ o ≠ 152 → S2 o = S o := fun o h1 h2 h3 h4 h5 h6 => (k2 o h5 h6.1 h6.2).trans (k1 o h1 h2 h3 h4)
      have km : ∀ k, 8 < k → k ≠ 42 → S2 132 k = S 132 k := fun k h1 h2 => by rw [b6 k (Or.inr h1) h2, e132]
      have hB2 : CB S2 (iB (!w.2.2)) x.1 x.2 := CB_of y3 (by rw [k2 (iB (!w.2.2)) (by omega) (by omega) (by omega)]) (k2 _ (by omega) (by omega) (by omega)) (k2 _ (by omega) (by omega) (by omega))
      have e8 := kk 8 (by omega) (by omega) (by omega) (by omega) (by omega) (by omega)
      have e26 := kk 26 (by omega) (by omega) (by omega) (by omega) (by omega) (by omega)
      have eWr := kk (iW w.2.1) (by omega) (by omega) (by omega) (by omega) (by omega) (by omega)
      have e137 := kk 137 (by omega) (by omega) (by omega) (by omega) (by omega) (by omega)
      have gL : CL S2 (iL w.1) nT nR nC rd := CL_of hL (kk _ (by omega) (by omega) (by omega) (by omega) (by omega) (by omega)) (kk _ (by omega) (by omega) (by omega) (by omega) (by omega) (by omega)) (kk _ (by omega) (by omega) (by omega) (by omega) (by omega) (by omega)) (kk _ (by omega) (by omega) (by omega) (by omega) (by omega) (by omega))
      have gW : CW S2 (iW w.2.1) cd := CW_of hc (by rw [eWr]) (kk _ (by omega) (by omega) (by omega) (by omega) (by omega) (by omega)) (kk _ (by omega) (by omega) (by omega) (by omega) (by omega) (by omega))
      refine ⟨S2, x1 _, b5, nT, nR, nC, rd, cd, x.1, x.2, s, P, B, 0, ⟨⟨gL, CS_of hs (by rw [e8]; exact ⟨rfl, rfl⟩) (fun i i1 i2 => kk _ (by omega) (by omega) (by omega) (by omega) (by omega) (by omega)), gW, hB2, PC_of hP (by rw [e26]) (by rw [e26]) (fun o o1 o2 => kk _ (by omega) (by omega) (by omega) (by omega) (by omega) (by omega))⟩, ⟨LdP_of mL (km _ (by decide) (by decide)) (km _ (by decide) (by decide)) (km _ (by decide) (by decide)) (fun k _ _ => by rw [e137]), NwP_row mn (kk _ (by omega) (by omega) (by omega) (by omega) (by omega) (by omega)), CdP_of mc (km _ (by decide) (by decide)) (kk _ (by omega) (by omega) (by omega) (by omega) (by omega) (by omega)) (kk _ (by omega) (by omega) (by omega) (by omega) (by omega) (by omega)), x3, PM_of mP (km _ (by decide) (by decide)) (km _ (by decide) (by decide)) (kk _ (by omega) (by omega) (by omega) (by omega) (by omega) (by omega)) (kk _ (by omega) (by omega) (by omega) (by omega) (by omega) (by omega))⟩, ⟨hE, hq, hQ⟩, ⟨Tx_row t1 (kk _ (by omega) (by omega) (by omega) (by omega) (by omega) (by omega)), Tx_row t2 (kk _ (by omega) (by omega) (by omega) (by omega) (by omega) (by omega)), by rw [k2 1 (by omega) (by omega) (by omega)]; exact a4, b4, by decide, by decide⟩, ?_, ?_⟩, ?_, ?_⟩
      · rw [k2 0 (by omega) (by omega) (by omega), y2, x2]
      · rw [k2 0 (by omega) (by omega) (by omega), g0.2.2, km 32 (by decide) (by decide)]
        exact f2
      · rw [k2 0 (by omega) (by omega) (by omega), g0.1, kk 133 (by omega) (by omega) (by omega) (by omega) (by omega) (by omega)]
        exact hk.1
      · rw [k2 0 (by omega) (by omega) (by omega), g0.2.1, kk 133 (by omega) (by omega) (by omega) (by omega) (by omega) (by omega)]
        exact hk.2
  · exact out_B hA hk (c := 1) rfl (by decide) (c_bookB (X := X) (d := dd + 53) (w := w) (S := S) (J := J) t3 t5 hb hn) (fun J2 => m_bookB (X := X) (d := dd + 57) (w := w) (S := xbS S) (J := J2) (tp := z) (by unfold xbS; rw [uS_ne _ _ (Or.inl (by decide))]; exact t4) hb t5 hn)
theorem sim_law (hR : Rel w S) {n : Int} (hb : I32 n) : Out X dd w S J 105 187 [.int (zI n)] oneB true := by
  obtain ⟨nT, nR, nC, rd, cd, nB, bk, s, P, B, z, hA, hk⟩ := hR
  obtain ⟨⟨hL, hs, hc, hB, hP⟩, ⟨mL, mn, mc, mB, mP⟩, ⟨hE, hq, hQ⟩, ⟨t1, t2, t3, t4, t5⟩, f1, f2⟩ := id hA
  have r12 : nR ≤ 12 := hL.2.2.2.2.2.2.2.1
  have r0 : 0 ≤ nR := hL.2.2.2.2.2.2.1
  have r5 : nC ≤ 5 := hL.2.2.2.2.2.2.2.2.2.1
  have r50 : 0 ≤ nC := hL.2.2.2.2.2.2.2.2.1
  have hrd : Rd nR rd := hL.2.2.2.2.2.2.2.2.2.2
  have eL := iL_c w.1
  have eW := iW_c w.2.1
  have eB := iB_c w.2.2
  by_cases hn : 0 ≤ n ∧ n ≤ min z 150
  · obtain ⟨res, hok, hcr, hmr⟩ := law_both X B (e := n.toNat) (by omega) (!w.2.1)
    obtain ⟨S1, a1, a2, a3, a4, a5⟩ := c_law (X := X) w J t1 t3 t5 hn hok hcr
    have eW2 := iW_c (!w.2.1)
    have eWn := iW_n w.2.1
    have k1 : ∀ o, 1 < o → o ≠ iW (!w.2.1) → o ≠ iW (!w.2.1) + 1 → o ≠ iW (!w.2.1) + 2 → S1 o = S o := fun o h1 h2 h3 h4 => a3 o (by simp only [List.mem_cons, List.not_mem_nil, or_false]; omega)
    have e132 : S1 132 = S 132 := k1 132 (by omega) (by omega) (by omega) (by omega)
    have hM := fun w' J2 => m_law (X := X) (d := dd + 20) (w := w') (J := J2) (S := S1) (n := n) (tp := z) (Tx_row t2 (k1 134 (by omega) (by omega) (by omega) (by omega))) (by rw [e132]; exact t4) t5 hn hok hmr
    have g0 : S1 0 14 = S 0 14 ∧ S1 0 15 = S 0 15 ∧ S1 0 13 = S 0 13 := ⟨a5 14 (by decide), a5 15 (by decide), a5 13 (by decide)⟩
    cases hout : res with
    | inl f =>
      obtain ⟨y1, y2⟩ := a1 f hout
      refine Or.inl ⟨_, w, S1, fun _ => rfl, y1 (dd + 19), fun J2 => ?_⟩
      obtain ⟨S2, b1, -, b3, b4, b5, b6⟩ := hM w J2
      obtain ⟨x1, x2, x3, x4, x5⟩ := b1 f hout
      have k2 : ∀ o, o ≠ 132 → o ≠ 139 → o ≠ 140 → S2 o = S1 o := fun o h1 h2 h3 => by
        by_cases h4 : o = 141
        · rw [h4]; exact x4
        · by_cases h5 : o = 142
          · rw [h5]; exact x5
          · exact b3 o (by simp only [List.mem_cons, List.not_mem_nil, or_false]; omega)
      have kk : ∀ o, 1 < o → o ≠ iW (!w.2.1) → o ≠ iW (!w.2.1) + 1 → o ≠ iW (!w.2.1) + 2 → o ≠ 132 → o ≠ 139 ∧ o ≠ 140 → S2 o = S o := fun o h1 h2 h3 h4 h5 h6 => (k2 o h5 h6.1 h6.2).trans (k1 o h1 h2 h3 h4)
      have km : ∀ k, 8 < k → k ≠ 25 → S2 132 k = S 132 k := fun k h1 h2 => by
        by_cases h3 : k = 26
        · rw [h3, x3, e132]
        · rw [b6 k (Or.inr h1) h2 h3, e132]
      have e8 := kk 8 (by omega) (by omega) (by omega) (by omega) (by omega) (by omega)
      have e26 := kk 26 (by omega) (by omega) (by omega) (by omega) (by omega) (by omega)
      have eWr := kk (iW w.2.1) (by omega) (by omega) (by omega) (by omega) (by omega) (by omega)
      have eBr := kk (iB w.2.2) (by omega) (by omega) (by omega) (by omega) (by omega) (by omega)
      have e137 := kk 137 (by omega) (by omega) (by omega) (by omega) (by omega) (by omega)
      refine ⟨S2, x1, b5, nT, nR, nC, rd, cd, nB, bk, s, P, B, 0, ⟨⟨CL_of hL (kk _ (by omega) (by omega) (by omega) (by omega) (by omega) (by omega)) (kk _ (by omega) (by omega) (by omega) (by omega) (by omega) (by omega)) (kk _ (by omega) (by omega) (by omega) (by omega) (by omega) (by omega)) (kk _ (by omega) (by omega) (by omega) (by omega) (by omega) (by omega)), CS_of hs (by rw [e8]; exact ⟨rfl, rfl⟩) (fun i i1 i2 => kk _ (by omega) (by omega) (by omega) (by omega) (by omega) (by omega)), CW_of hc (by rw [eWr]) (kk _ (by omega) (by omega) (by omega) (by omega) (by omega) (by omega)) (kk _ (by omega) (by omega) (by omega) (by omega) (by omega) (by omega)), CB_of hB (by rw [eBr]) (kk _ (by omega) (by omega) (by omega) (by omega) (by omega) (by omega)) (kk _ (by omega) (by omega) (by omega) (by omega) (by omega) (by omega)), PC_of hP (by rw [e26]) (by rw [e26]) (fun o o1 o2 => kk _ (by omega) (by omega) (by omega) (by omega) (by omega) (by omega))⟩, ⟨LdP_of mL (km _ (by decide) (by decide)) (km _ (by decide) (by decide)) (km _ (by decide) (by decide)) (fun k _ _ => by rw [e137]), NwP_row mn (kk _ (by omega) (by omega) (by omega) (by omega) (by omega) (by omega)), CdP_of mc (km _ (by decide) (by decide)) (kk _ (by omega) (by omega) (by omega) (by omega) (by omega) (by omega)) (kk _ (by omega) (by omega) (by omega) (by omega) (by omega) (by omega)), BkP_of mB (km _ (by decide) (by decide)) (kk _ (by omega) (by omega) (by omega) (by omega) (by omega) (by omega)), PM_of mP (km _ (by decide) (by decide)) (km _ (by decide) (by decide)) (kk _ (by omega) (by omega) (by omega) (by omega) (by omega) (by omega)) (kk _ (by omega) (by omega) (by omega) (by omega) (by omega) (by omega))⟩, ⟨hE, hq, hQ⟩, ⟨Tx_row t1 (kk _ (by omega) (by omega) (by omega) (by omega) (by omega) (by omega)), Tx_row t2 (kk _ (by omega) (by omega) (by omega) (by omega) (by omega) (by omega)), by rw [k2 1 (by omega) (by omega) (by omega)]; exact a4, b4, by decide, by decide⟩, ?_, ?_⟩, ?_, ?_⟩
      · rw [k2 0 (by omega) (by omega) (by omega), y2, x2]
      · rw [k2 0 (by omega) (by omega) (by omega), g0.2.2, km 32 (by decide) (by decide)]
        exact f2
      · rw [k2 0 (by omega) (by omega) (by omega), g0.1, kk 133 (by omega) (by omega) (by omega) (by omega) (by omega) (by omega)]
        exact hk.1
      · rw [k2 0 (by omega) (by omega) (by omega), g0.2.1, kk 133 (by omega) (by omega) (by omega) (by omega) (by omega) (by omega)]
        exact hk.2
    | inr cd2 =>
      obtain ⟨y1, y2, y3⟩ := a2 cd2 hout
      refine Or.inl ⟨_, (w.1, !w.2.1, w.2.2), S1, fun z => (by cases z), y1 (dd + 19), fun J2 => ?_⟩
      obtain ⟨S2, -, b2, b3, b4, b5, b6⟩ := hM (w.1, !w.2.1, w.2.2) J2
      obtain ⟨x1, x2, x3⟩ := b2 cd2 hout
      have k2 : ∀ o, o ≠ 132 → o ≠ 139 ∧ o ≠ 140 → o ≠ 141 ∧ o ≠ 142 → S2 o = S1 o := fun o h1 h2 h3 => b3 o (by simp only [List.mem_cons, List.not_mem_nil, or_false]; omega)
      have kk : ∀ o, 1 < o → o ≠ iW (!w.2.1) → o ≠ iW (!w.2.1) + 1 → o ≠ iW (!w.2.1) + 2 → o ≠ 132 → ¬ (139 ≤ o ∧ o ≤ 142) → S2 o = S o := fun o h1 h2 h3 h4 h5 h6 => (k2 o h5 (by omega) (by omega)).trans (k1 o h1 h2 h3 h4)
      have km : ∀ k, 8 < k → k ≠ 25 ∧ k ≠ 26 → S2 132 k = S 132 k := fun k h1 h2 => by rw [b6 k (Or.inr h1) h2.1 h2.2, e132]
      have e8 := kk 8 (by omega) (by omega) (by omega) (by omega) (by omega) (by omega)
      have e26 := kk 26 (by omega) (by omega) (by omega) (by omega) (by omega) (by omega)
      have eBr := kk (iB w.2.2) (by omega) (by omega) (by omega) (by omega) (by omega) (by omega)
      have e137 := kk 137 (by omega) (by omega) (by omega) (by omega) (by omega) (by omega)
      have hc2 : CW S2 (iW (!w.2.1)) cd2 := CW_of y3 (by rw [k2 (iW (!w.2.1)) (by omega) (by omega) (by omega)]) (k2 _ (by omega) (by omega) (by omega)) (k2 _ (by omega) (by omega) (by omega))
      have gL : CL S2 (iL w.1) nT nR nC rd := CL_of hL (kk _ (by omega) (by omega) (by omega) (by omega) (by omega) (by omega)) (kk _ (by omega) (by omega) (by omega) (by omega) (by omega) (by omega)) (kk _ (by omega) (by omega) (by omega) (by omega) (by omega) (by omega)) (kk _ (by omega) (by omega) (by omega) (by omega) (by omega) (by omega))
      have gB : CB S2 (iB w.2.2) nB bk := CB_of hB (by rw [eBr]) (kk _ (by omega) (by omega) (by omega) (by omega) (by omega) (by omega)) (kk _ (by omega) (by omega) (by omega) (by omega) (by omega) (by omega))
      refine ⟨S2, x1, b5, nT, nR, nC, rd, cd2, nB, bk, s, P, B, 0, ⟨⟨gL, CS_of hs (by rw [e8]; exact ⟨rfl, rfl⟩) (fun i i1 i2 => kk _ (by omega) (by omega) (by omega) (by omega) (by omega) (by omega)), hc2, gB, PC_of hP (by rw [e26]) (by rw [e26]) (fun o o1 o2 => kk _ (by omega) (by omega) (by omega) (by omega) (by omega) (by omega))⟩, ⟨LdP_of mL (km _ (by decide) (by decide)) (km _ (by decide) (by decide)) (km _ (by decide) (by decide)) (fun k _ _ => by rw [e137]), NwP_row mn (kk _ (by omega) (by omega) (by omega) (by omega) (by omega) (by omega)), x3, BkP_of mB (km _ (by decide) (by decide)) (kk _ (by omega) (by omega) (by omega) (by omega) (by omega) (by omega)), PM_of mP (km _ (by decide) (by decide)) (km _ (by decide) (by decide)) (kk _ (by omega) (by omega) (by omega) (by omega) (by omega) (by omega)) (kk _ (by omega) (by omega) (by omega) (by omega) (by omega) (by omega))⟩, ⟨hE, hq, hQ⟩, ⟨Tx_row t1 (kk _ (by omega) (by omega) (by omega) (by omega) (by omega) (by omega)), Tx_row t2 (kk _ (by omega) (by omega) (by omega) (by omega) (by omega) (by omega)), by rw [k2 1 (by omega) (by omega) (by omega)]; exact a4, b4, by decide, by decide⟩, ?_, ?_⟩, ?_, ?_⟩
      · rw [k2 0 (by omega) (by omega) (by omega), y2, x2]
      · rw [k2 0 (by omega) (by omega) (by omega), g0.2.2, km 32 (by decide) (by decide)]
        exact f2
      · rw [k2 0 (by omega) (by omega) (by omega), g0.1, kk 133 (by omega) (by omega) (by omega) (by omega) (by omega) (by omega)]
        exact hk.1
      · rw [k2 0 (by omega) (by omega) (by omega), g0.2.1, kk 133 (by omega) (by omega) (by omega) (by omega) (by omega) (by omega)]
        exact hk.2
  · exact out_B hA hk (c := 1) rfl (by decide) (c_lawB (X := X) (d := dd + 50) (w := w) (S := S) (J := J) t3 t5 hb hn) (fun J2 => m_lawB (X := X) (d := dd + 53) (w := w) (S := xbS S) (J := J2) (tp := z) (by unfold xbS; rw [uS_ne _ _ (Or.inl (by decide))]; exact t4) hb t5 hn)
theorem sim_land (hR : Rel w S) {n : Int} (hb : I32 n) : Out X dd w S J 104 179 [.int (zI n)] oneB true := by
  obtain ⟨nT, nR, nC, rd, cd, nB, bk, s, P, B, z, hA, hk⟩ := hR
  obtain ⟨⟨hL, hs, hc, hB, hP⟩, ⟨mL, mn, mc, mB, mP⟩, ⟨hE, hq, hQ⟩, ⟨t1, t2, t3, t4, t5⟩, f1, f2⟩ := id hA
  have r12 : nR ≤ 12 := hL.2.2.2.2.2.2.2.1
  have r0 : 0 ≤ nR := hL.2.2.2.2.2.2.1
  have r5 : nC ≤ 5 := hL.2.2.2.2.2.2.2.2.2.1
  have r50 : 0 ≤ nC := hL.2.2.2.2.2.2.2.2.1
  have hrd : Rd nR rd := hL.2.2.2.2.2.2.2.2.2.2
  have eL := iL_c w.1
  have eW := iW_c w.2.1
  have eB := iB_c w.2.2
  by_cases hn : 0 ≤ n ∧ n ≤ min z 600
  · have eL2 := iL_c (!w.1)
    have eLn := iL_n w.1
    cases hout : ldAll B n.toNat with
    | inl f =>
      obtain ⟨S1, y1, y2, a4, a3, a5⟩ := c_landF (X := X) w J t1 t3 t5 hn hout
      have k1 : ∀ o, 1 < o → ¬ (iL (!w.1) ≤ o ∧ o ≤ iL (!w.1) + 6) → S1 o = S o := fun o h1 h2 => a3 o (by simp only [List.mem_cons, List.not_mem_nil, or_false]; omega)
      have e132 : S1 132 = S 132 := k1 132 (by omega) (by omega)
      have g0 : S1 0 14 = S 0 14 ∧ S1 0 15 = S 0 15 ∧ S1 0 13 = S 0 13 := ⟨a5 14 (by decide), a5 15 (by decide), a5 13 (by decide)⟩
      refine Or.inl ⟨_, w, S1, fun _ => rfl, y1 (dd + 52), fun J2 => ?_⟩
      obtain ⟨S2, x1, x2, b4, b5, b3, b6⟩ := m_landF (X := X) (d := dd + 54) (w := w) (J := J2) (S := S1) (n := n) (tp := z) (Tx_row t2 (k1 134 (by omega) (by omega))) (by rw [e132]; exact t4) t5 hn hout
      have k2 : ∀ o, o ≠ 132 → o ≠ 135 → o ≠ 136 → S2 o = S1 o := fun o h1 h2 h3 => b3 o (by simp only [List.mem_cons, List.not_mem_nil, or_false]; omega)
      have kk : ∀ o, 1 < o → ¬ (iL (!w.1) ≤ o ∧ o ≤ iL (!w.1) + 6) → o ≠ 132 → o ≠ 135 ∧ o ≠ 136 → S2 o = S o := fun o h1 h2 h3 h4 => (k2 o h3 h4.1 h4.2).trans (k1 o h1 h2)
      have km : ∀ k, 16 < k → S2 132 k = S 132 k := fun k h1 => by rw [b6 k (Or.inr (Or.inr h1)), e132]
      have e8 := kk 8 (by omega) (by omega) (by omega) (by omega)
      have e26 := kk 26 (by omega) (by omega) (by omega) (by omega)
      have eWr := kk (iW w.2.1) (by omega) (by omega) (by omega) (by omega)
      have eBr := kk (iB w.2.2) (by omega) (by omega) (by omega) (by omega)
      have e137 := kk 137 (by omega) (by omega) (by omega) (by omega)
      refine ⟨S2, x1, b5, nT, nR, nC, rd, cd, nB, bk, s, P, B, 0, ⟨⟨CL_of hL (kk _ (by omega) (by omega) (by omega) (by omega)) (kk _ (by omega) (by omega) (by omega) (by omega)) (kk _ (by omega) (by omega) (by omega) (by omega)) (kk _ (by omega) (by omega) (by omega) (by omega)), CS_of hs (by rw [e8]; exact ⟨rfl, rfl⟩) (fun i i1 i2 => kk _ (by omega) (by omega) (by omega) (by omega)), CW_of hc (by rw [eWr]) (kk _ (by omega) (by omega) (by omega) (by omega)) (kk _ (by omega) (by omega) (by omega) (by omega)), CB_of hB (by rw [eBr]) (kk _ (by omega) (by omega) (by omega) (by omega)) (kk _ (by omega) (by omega) (by omega) (by omega)), PC_of hP (by rw [e26]) (by rw [e26]) (fun o o1 o2 => kk _ (by omega) (by omega) (by omega) (by omega))⟩, ⟨LdP_of mL (km _ (by decide)) (km _ (by decide)) (km _ (by decide)) (fun k _ _ => by rw [e137]), NwP_row mn (kk _ (by omega) (by omega) (by omega) (by omega)), CdP_of mc (km _ (by decide)) (kk _ (by omega) (by omega) (by omega) (by omega)) (kk _ (by omega) (by omega) (by omega) (by omega)), BkP_of mB (km _ (by decide)) (kk _ (by omega) (by omega) (by omega) (by omega)), PM_of mP (km _ (by decide)) (km _ (by decide)) (kk _ (by omega) (by omega) (by omega) (by omega)) (kk _ (by omega) (by omega) (by omega) (by omega))⟩, ⟨hE, hq, hQ⟩, ⟨Tx_row t1 (kk _ (by omega) (by omega) (by omega) (by omega)), Tx_row t2 (kk _ (by omega) (by omega) (by omega) (by omega)), by rw [k2 1 (by omega) (by omega) (by omega)]; exact a4, b4, by decide, by decide⟩, ?_, ?_⟩, ?_, ?_⟩
      · rw [k2 0 (by omega) (by omega) (by omega), y2, x2]
      · rw [k2 0 (by omega) (by omega) (by omega), g0.2.2, km 32 (by decide)]
        exact f2
      · rw [k2 0 (by omega) (by omega) (by omega), g0.1, kk 133 (by omega) (by omega) (by omega) (by omega)]
        exact hk.1
      · rw [k2 0 (by omega) (by omega) (by omega), g0.2.1, kk 133 (by omega) (by omega) (by omega) (by omega)]
        exact hk.2
    | inr x =>
      obtain ⟨S1, y1, ⟨y2, y3, a4, y4, y5, y6⟩, y7, y8, y9, a5, a6, a7⟩ := c_landO (X := X) w J t1 t3 t5 hn hout
      have k1 : ∀ o, 26 < o → o < 100 ∨ 131 < o → S1 o = S o := fun o h1 h2 => a6 o (by omega) (by omega) (by omega) (by omega) (by omega)
      have e2 : S1 2 = S 2 := a6 2 (by omega) (by omega) (by omega) (by omega) (by omega)
      have e132 : S1 132 = S 132 := k1 132 (by omega) (by omega)
      refine Or.inl ⟨_, (!w.1, w.2.1, w.2.2), S1, fun z => (by cases z), y1 (dd + 52), fun J2 => ?_⟩
      obtain ⟨S2, rd2, x1, x2, x3, x4, x5, x6, x7, b3⟩ := m_landO (X := X) (d := dd + 54) (w := (!w.1, w.2.1, w.2.2)) (J := J2) (S := S1) (n := n) (tp := z) (Tx_row t2 (k1 134 (by omega) (by omega))) (by rw [e132]; exact t4) t5 hn hout
      have k2 : ∀ o, o < 132 ∨ o = 133 ∨ o = 134 → S2 o = S1 o := fun o h1 => b3 o (by simp only [List.mem_cons, List.not_mem_nil, or_false]; omega)
      obtain ⟨o1, o2, o3, o4, o5⟩ := id x2
      have hrd2 : Rd x.2.1 rd2 := fun r r1 r2 => by
        obtain ⟨q1, q2, q3⟩ := x3 r r1 r2
        have := o4 r r1 r2
        rw [q1, q2, q3]
        omega
      have hE2 : Ends x.1 x.2.1 rd2 := fun r r1 r2 => by
        obtain ⟨q1, q2, q3⟩ := x3 r r1 r2
        obtain ⟨p1, p2, p3, p4, p5, p6, p7, p8, p9⟩ := o4 r r1 r2
        rw [q1, q2, q3]
        exact ⟨p1, p2, p3, p4, p5, p6⟩
      obtain ⟨l1, l2, l3, l4, -, -⟩ := y7
      have hL2 : CL S2 (iL (!w.1)) x.1 x.2.1 x.2.2.1 rd2 := by
        refine ⟨?_, ?_, ?_, fun r r1 r2 => ?_, o1.1, o1.2, o2.1, o2.2, o3.1, o3.2, hrd2⟩
        · rw [k2 _ (by omega)]; exact l1
        · rw [k2 _ (by omega)]; exact l2
        · rw [k2 _ (by omega)]; exact l3
        · obtain ⟨q1, q2, q3⟩ := x3 r r1 r2
          obtain ⟨p1, p2, p3, -⟩ := l4 r r1 r2
          rw [k2 _ (by omega), k2 _ (by omega), k2 _ (by omega), q1, q2, q3]
          exact ⟨p1, p2, p3⟩
      have hs2 : Qs rd2 x.2.1 x.2.2.1 (s0F x) := by
        have hi := (s0_inv x2).1
        refine ⟨⟨hi, fun c c1 c2 => ?_⟩, by rw [(s0_t x).2]; decide⟩
        obtain ⟨-, -, q3, q4, -⟩ := s0_c x (c := c) (by omega)
        exact ⟨fun _ => q4, fun z => absurd q3 z⟩
      have e8 := k2 8 (by omega)
      have e26 := k2 26 (by omega)
      have eWr := k2 (iW w.2.1) (by omega)
      have eBr := k2 (iB w.2.2) (by omega)
      have gW : CW S2 (iW w.2.1) [] := CW_of y9 (by rw [eWr]) (k2 _ (by omega)) (k2 _ (by omega))
      have gB : CB S2 (iB w.2.2) 0 (fun _ => 0) := ⟨by rw [eBr]; exact y6, fun i i1 i2 => absurd i2 (by omega), by decide, by decide, fun i i1 i2 => absurd i2 (by omega)⟩
      refine ⟨S2, x1, x7.2.2.1, x.1, x.2.1, x.2.2.1, rd2, [], 0, fun _ => 0, s0F x, P0, B, 0, ⟨⟨hL2, CS_of y8 (by rw [e8]; exact ⟨rfl, rfl⟩) (fun i i1 i2 => k2 _ (by omega)), gW, gB, ⟨⟨by rw [e26]; exact y4, by decide, fun i hi => absurd hi (Nat.not_lt_zero i)⟩, by rw [e26]; exact y5, by decide, fun j hj => absurd hj (Nat.not_lt_zero j)⟩⟩, ⟨⟨x4.1, x4.2.1, x4.2.2.1, x4.2.2.2, o1.1, o1.2, o2.1, o2.2, o3.1, o3.2, hrd2⟩, x5, ⟨x6.1, by decide, Or.inl rfl, trivial⟩, ⟨x6.2.1, fun i i1 i2 => absurd i2 (by omega), by decide, by decide, fun i i1 i2 => absurd i2 (by omega)⟩, ⟨⟨x6.2.2.1, by decide, fun i hi => absurd hi (Nat.not_lt_zero i)⟩, x6.2.2.2.1, by decide, fun j hj => absurd hj (Nat.not_lt_zero j)⟩⟩, ⟨hE2, hs2, PQ_0 _⟩, ⟨Tx_row t1 (by rw [k2 2 (by omega)]; exact e2), Tx_row t2 (by rw [k2 134 (by omega), k1 134 (by omega) (by omega)]), by rw [k2 1 (by omega)]; exact a4, x7.2.1, by decide, by decide⟩, ?_, ?_⟩, ?_, ?_⟩
      · rw [k2 0 (by omega), y2, x7.1]
      · rw [k2 0 (by omega), y3, x6.2.2.2.2]
      · rw [k2 0 (by omega), a5 14 (by decide) (by decide), k2 133 (by omega), k1 133 (by omega) (by omega)]
        exact hk.1
      · rw [k2 0 (by omega), a5 15 (by decide) (by decide), k2 133 (by omega), k1 133 (by omega) (by omega)]
        exact hk.2
  · exact out_B hA hk (c := 1) rfl (by decide) (c_landB (X := X) (d := dd + 52) (w := w) (S := S) (J := J) t3 t5 hb hn) (fun J2 => m_landB (X := X) (d := dd + 54) (w := w) (S := xbS S) (J := J2) (tp := z) (by unfold xbS; rw [uS_ne _ _ (Or.inl (by decide))]; exact t4) hb t5 hn)
/-- luck: an answer of two places; the reference reckons in a row of its own -/
def OutJ (X : Nat × (Nat → Int32)) (e : Nat) (w : Bool × Bool × Bool) (S : Hp) (J : Nat → Nat → Int64) (vs : List Value) : Prop :=
  (∃ (v : Int64), am_call X aP (e + 59) 129 (.ref 0 :: vs) (mkS w (hI S) J) = some (.inl (some (.long v)), mkS w (hI S) J) ∧ ∀ J2, ∃ S2 J3, am_call X aP (e + 60) 252 (.ref 132 :: vs) (mkS w (hI S) J2) = some (.inl (some (.long v)), mkS w (hI S2) J3) ∧ J3 158 = J2 158 ∧ S2 132 0 = 0 ∧ Rel w S2) ∨
  ∃ (S1 : Hp), am_call X aP (e + 59) 129 (.ref 0 :: vs) (mkS w (hI S) J) = some (.inr 2, mkS w (hI S1) J) ∧ ∀ J2, ∃ (b : Int64) (S2 : Hp), am_call X aP (e + 60) 252 (.ref 132 :: vs) (mkS w (hI S1) J2) = some (.inl (some (.long b)), mkS w (hI S2) J2) ∧ S2 132 0 = 1 ∧ Rel w S2
theorem sim_luck (hR : Rel w S) {n k q h : Int} (hn : I32 n) (hk9 : I32 k) (hq9 : I32 q) (hh : I32 h) : OutJ X dd w S J [.int (zI n), .int (zI k), .int (zI q), .int (zI h)] := by
  obtain ⟨nT, nR, nC, rd, cd, nB, bk, s, P, B, z, hA, hk⟩ := hR
  by_cases h1 : okLuck n k q h
  · refine Or.inl ⟨_, c_luck (X := X) (d := dd + 57) (w := w) (S := S) (J := J) h1, fun J2 => ?_⟩
    obtain ⟨J3, j1, g2⟩ := m_luck2 (X := X) (d := dd + 58) (w := w) (S := S) (J := J2) h1
    exact ⟨_, J3, g2, j1, rel_end hA hk (QuM_0 _)⟩
  · refine Or.inr ⟨xbS S, c_luckB (X := X) (d := dd + 57) (w := w) (S := S) (J := J) hn hk9 hq9 hh h1, fun J2 => ?_⟩
    obtain ⟨⟨r1, r2⟩, -⟩ := rel_bad hA hk 1
    exact ⟨_, _, m_luckB (X := X) (d := dd + 58) (w := w) (S := xbS S) (J := J2) hn hk9 hq9 hh h1, r1, r2⟩
end TXT2
