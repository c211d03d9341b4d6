/-! WHAT STAYS TRUE of scenes -/
def InvS (rd : Int → Int) (nR nC : Int) (s : Int → Int) : Prop := Sc nR nC s ∧ Sg rd nC s
theorem othF_r {nR : Int} {rd : Int → Int} (h : Rd nR rd) {r t : Int} (hr : 0 ≤ r ∧ r < nR) : 0 ≤ othF rd r t ∧ othF rd r t < 7 := by
  obtain ⟨b1, b2, b3, b4, -⟩ := h r hr.1 hr.2
  unfold othF
  split <;> omega
theorem setF_o (rd : Int → Int) (s : Int → Int) {c r k : Int} (h : k ≠ 39 + c ∧ k ≠ 34 + c ∧ k ≠ 24 + c ∧ k ≠ 29 + c) : setF rd s c r k = s k := by
  unfold setF
  rw [if_neg h.1, if_neg h.2.1, if_neg h.2.2.1, if_neg h.2.2.2]
theorem turnF_o (rd : Int → Int) (s : Int → Int) {c k : Int} (h : k ≠ 39 + c ∧ k ≠ 24 + c ∧ k ≠ 29 + c) : turnF rd s c k = s k := by
  unfold turnF
  rw [if_neg h.1, if_neg h.2.2, if_neg h.2.1]
theorem inv_set {rd : Int → Int} {nR nC : Int} {s : Int → Int} (h : InvS rd nR nC s) (hrd : Rd nR rd) (hR : nR ≤ 12) (hC : nC ≤ 5) {c r : Int} (hc : 0 ≤ c ∧ c < nC) (hr : 0 ≤ r ∧ r < nR) : InvS rd nR nC (setF rd s c r) := by
  obtain ⟨⟨h1, h2, h3, h4, h5, h6⟩, h7⟩ := h
  have ho := othF_r hrd (t := s (24 + c)) hr
  obtain ⟨-, -, -, -, l1, l2⟩ := hrd r hr.1 hr.2
  have v0 := h2 c hc.1 hc.2
  refine ⟨⟨fun r' q1 q2 => ?_, fun c' q1 q2 => ?_, ?_, ?_, ?_, ?_⟩, fun c' q1 q2 => ?_⟩
  · rw [setF_o _ _ (by omega), setF_o _ _ (by omega), setF_o _ _ (by omega)]
    exact h1 r' q1 q2
  · have v := h2 c' q1 q2
    by_cases e : c' = c
    · subst e
      unfold setF
      simp (disch := omega) only [if_neg, if_true]
      omega
    · rw [setF_o _ _ (by omega), setF_o _ _ (by omega), setF_o _ _ (by omega), setF_o _ _ (by omega), setF_o _ _ (by omega)]
      exact v
  · rw [setF_o _ _ (by omega)]; exact h3
  · rw [setF_o _ _ (by omega)]; exact h4
  · rw [setF_o _ _ (by omega)]; exact h5
  · rw [setF_o _ _ (by omega), setF_o _ _ (by omega)]; exact h6
  · by_cases e : c' = c
    · subst e
      have e1 : setF rd s c' r (34 + c') = r := by
        unfold setF
        simp (disch := omega) only [if_neg, if_true]
      have e2 : setF rd s c' r (39 + c') = 0 := by
        unfold setF
        simp (disch := omega) only [if_neg, if_true]
      rw [e1, e2]
      omega
    · rw [setF_o _ _ (by omega), setF_o _ _ (by omega)]
      exact h7 c' q1 q2
theorem inv_turn {rd : Int → Int} {nR nC : Int} {s : Int → Int} (h : InvS rd nR nC s) (hrd : Rd nR rd) (hR : nR ≤ 12) (hC : nC ≤ 5) {c : Int} (hc : 0 ≤ c ∧ c < nC) (ho : ¬ s (34 + c) = -1) : InvS rd nR nC (turnF rd s c) := by
  obtain ⟨⟨h1, h2, h3, h4, h5, h6⟩, h7⟩ := h
  have v0 := h2 c hc.1 hc.2
  have v1 := (h7 c hc.1 hc.2).2 ho
  obtain ⟨-, -, -, -, l1, l2⟩ := hrd (s (34 + c)) (by omega) (by omega)
  refine ⟨⟨fun r' q1 q2 => ?_, fun c' q1 q2 => ?_, ?_, ?_, ?_, ?_⟩, fun c' q1 q2 => ?_⟩
  · rw [turnF_o _ _ (by omega), turnF_o _ _ (by omega), turnF_o _ _ (by omega)]
    exact h1 r' q1 q2
  · have v := h2 c' q1 q2
    by_cases e : c' = c
    · subst e
      unfold turnF
      simp (disch := omega) only [if_neg, if_true]
      omega
    · rw [turnF_o _ _ (by omega), turnF_o _ _ (by omega), turnF_o _ _ (by omega), turnF_o _ _ (by omega), turnF_o _ _ (by omega)]
      exact v
  · rw [turnF_o _ _ (by omega)]; exact h3
  · rw [turnF_o _ _ (by omega)]; exact h4
  · rw [turnF_o _ _ (by omega)]; exact h5
  · rw [turnF_o _ _ (by omega), turnF_o _ _ (by omega)]; exact h6
  · by_cases e : c' = c
    · subst e
      rw [turnF_o _ _ (k := 34 + c') (by omega)]
      have e2 : turnF rd s c' (39 + c') = rd (4 * s (34 + c') + 2) - s (39 + c') := by
        unfold turnF
        rw [if_pos rfl]
      rw [e2]
      omega
    · rw [turnF_o _ _ (by omega), turnF_o _ _ (by omega)]
      exact h7 c' q1 q2
theorem pu_o (s : Int → Int) {k v j : Int} (h : j ≠ k) : pu s k v j = s j := by
  unfold pu
  rw [if_neg h]
theorem pu_s (s : Int → Int) (k v : Int) : pu s k v k = v := by
  unfold pu
  rw [if_pos rfl]
theorem inv_load {rd : Int → Int} {nR nC : Int} {s : Int → Int} (h : InvS rd nR nC s) (hR : nR ≤ 12) (hC : nC ≤ 5) {c v : Int} (hc : 0 ≤ c ∧ c < nC) (hv : 0 ≤ v ∧ v < 100) : InvS rd nR nC (pu s (44 + c) v) := by
  obtain ⟨⟨h1, h2, h3, h4, h5, h6⟩, h7⟩ := h
  refine ⟨⟨fun r' q1 q2 => ?_, fun c' q1 q2 => ?_, ?_, ?_, ?_, ?_⟩, fun c' q1 q2 => ?_⟩
  · rw [pu_o _ (by omega), pu_o _ (by omega), pu_o _ (by omega)]
    exact h1 r' q1 q2
  · have v := h2 c' q1 q2
    rw [pu_o _ (j := 24 + c') (by omega), pu_o _ (j := 29 + c') (by omega), pu_o _ (j := 34 + c') (by omega), pu_o _ (j := 39 + c') (by omega)]
    by_cases e : c' = c
    · subst e
      rw [pu_s]
      omega
    · rw [pu_o _ (by omega)]
      exact v
  · rw [pu_o _ (by omega)]; exact h3
  · rw [pu_o _ (by omega)]; exact h4
  · rw [pu_o _ (by omega)]; exact h5
  · rw [pu_o _ (by omega), pu_o _ (by omega)]; exact h6
  · rw [pu_o _ (by omega), pu_o _ (by omega)]
    exact h7 c' q1 q2
theorem inv_off {rd : Int → Int} {nR nC : Int} {s : Int → Int} (h : InvS rd nR nC s) (hR : nR ≤ 12) (hC : nC ≤ 5) {r v : Int} (hr : 0 ≤ r ∧ r < nR) (hv : 0 ≤ v ∧ v < 7) : InvS rd nR nC (pu s r v) := by
  obtain ⟨⟨h1, h2, h3, h4, h5, h6⟩, h7⟩ := h
  refine ⟨⟨fun r' q1 q2 => ?_, fun c' q1 q2 => ?_, ?_, ?_, ?_, ?_⟩, fun c' q1 q2 => ?_⟩
  · have v := h1 r' q1 q2
    rw [pu_o _ (j := 12 + r') (by omega), pu_o _ (j := 50) (by omega)]
    by_cases e : r' = r
    · subst e
      rw [pu_s]
      omega
    · rw [pu_o _ (by omega)]
      exact v
  · rw [pu_o _ (by omega), pu_o _ (by omega), pu_o _ (by omega), pu_o _ (by omega), pu_o _ (by omega)]
    exact h2 c' q1 q2
  · rw [pu_o _ (by omega)]; exact h3
  · rw [pu_o _ (by omega)]; exact h4
  · rw [pu_o _ (by omega)]; exact h5
  · rw [pu_o _ (by omega), pu_o _ (by omega)]; exact h6
  · rw [pu_o _ (by omega), pu_o _ (by omega)]
    exact h7 c' q1 q2
theorem hourF_50 (cd : List (Int × Int)) (rd : Int → Int) (nR nC : Int) (s : Int → Int) : hourF cd rd nR nC s 50 = s 50 + 1 := by
  unfold hourF
  rw [if_pos rfl]
theorem hourF_49 (cd : List (Int × Int)) (rd : Int → Int) (nR nC : Int) (s : Int → Int) : hourF cd rd nR nC s 49 = s 49 + cameN cd rd nC s nC.toNat := by
  unfold hourF
  rw [if_neg (by decide), if_pos rfl]
theorem hourF_34 (cd : List (Int × Int)) (rd : Int → Int) {nR nC : Int} (s : Int → Int) (hR : nR ≤ 12) (hC : nC ≤ 5) {c : Int} (hc : 0 ≤ c ∧ c < nC) : hourF cd rd nR nC s (34 + c) = if comes cd rd nC s c then -1 else s (34 + c) := by
  unfold hourF
  rw [if_neg (by omega), if_neg (by omega), if_neg (by omega), if_pos (by omega), show 34 + c - 34 = c by omega]
theorem hourF_39 (cd : List (Int × Int)) (rd : Int → Int) {nR nC : Int} (s : Int → Int) (hR : nR ≤ 12) (hC : nC ≤ 5) {c : Int} (hc : 0 ≤ c ∧ c < nC) : hourF cd rd nR nC s (39 + c) = gonF cd rd nC s c := by
  unfold hourF gonF
  have e : 39 + c - 39 = c := by omega
  rw [if_neg (by omega), if_neg (by omega), if_neg (by omega), if_neg (show ¬ (34 ≤ 39 + c ∧ 39 + c < 34 + nC) by omega), if_pos (show 39 ≤ 39 + c ∧ 39 + c < 39 + nC by omega)]
  simp only [e]
theorem hourF_12 (cd : List (Int × Int)) (rd : Int → Int) {nR nC : Int} (s : Int → Int) (hR : nR ≤ 12) {r : Int} (hr : 0 ≤ r ∧ r < nR) : hourF cd rd nR nC s (12 + r) = if rst s r then 0 else s (12 + r) + (if onB nC s r = 0 then 0 else 1) := by
  unfold hourF
  rw [if_neg (by omega), if_neg (by omega), if_pos (show 12 ≤ 12 + r ∧ 12 + r < 12 + nR by omega), show 12 + r - 12 = r by omega]
theorem hourF_o (cd : List (Int × Int)) (rd : Int → Int) {nR nC : Int} (s : Int → Int) (hR : nR ≤ 12) (hC : nC ≤ 5) {k : Int} (h : k < 12 ∨ (24 ≤ k ∧ k < 34) ∨ (44 ≤ k ∧ k < 49)) : hourF cd rd nR nC s k = s k := by
  unfold hourF
  rw [if_neg (by omega), if_neg (by omega), if_neg (by omega), if_neg (by omega), if_neg (by omega)]
theorem cameN_r (cd : List (Int × Int)) (rd : Int → Int) (nC : Int) (s : Int → Int) (n : Nat) : 0 ≤ cameN cd rd nC s n ∧ cameN cd rd nC s n ≤ n := by
  have : (n : Int) * 0 ≤ cameN cd rd nC s n ∧ cameN cd rd nC s n ≤ (n : Int) * 1 := sumZ_r n (fun i _ _ => by
    show 0 ≤ (if comes cd rd nC s i then (1 : Int) else 0) ∧ (if comes cd rd nC s i then (1 : Int) else 0) ≤ 1
    split <;> omega)
  omega
theorem inv_hour (cd : List (Int × Int)) {rd : Int → Int} {nR nC : Int} {s : Int → Int} (h : InvS rd nR nC s) (hrd : Rd nR rd) (hR : nR ≤ 12) (hC : 0 ≤ nC ∧ nC ≤ 5) (ht : s 50 < 8000) : InvS rd nR nC (hourF cd rd nR nC s) := by
  obtain ⟨⟨h1, h2, h3, h4, h5, h6⟩, h7⟩ := id h
  have hcm := cameN_r cd rd nC s nC.toNat
  refine ⟨⟨fun r q1 q2 => ?_, fun c q1 q2 => ?_, ?_, ?_, ?_, ?_⟩, fun c q1 q2 => ?_⟩
  · obtain ⟨v1, v2, v3, v4⟩ := h1 r q1 q2
    rw [hourF_o cd rd s hR hC.2 (k := r) (by omega), hourF_12 cd rd s hR ⟨q1, q2⟩, hourF_50]
    refine ⟨v1, v2, ?_⟩
    split
    · omega
    · split <;> omega
  · obtain ⟨v1, v2, v3, v4, v5, v6, v7, v8, v9, v10⟩ := h2 c q1 q2
    have hg := gonF_r (cd := cd) (Sc_w h.1) hrd ⟨q1, q2⟩
    rw [hourF_o cd rd s hR hC.2 (k := 24 + c) (by omega), hourF_o cd rd s hR hC.2 (k := 29 + c) (by omega), hourF_o cd rd s hR hC.2 (k := 44 + c) (by omega), hourF_34 cd rd s hR hC.2 ⟨q1, q2⟩, hourF_39 cd rd s hR hC.2 ⟨q1, q2⟩]
    refine ⟨v1, v2, v3, v4, ?_, ?_, hg.1, hg.2, v9, v10⟩
    · split <;> omega
    · split <;> omega
  · rw [hourF_50]; omega
  · rw [hourF_50]; omega
  · rw [hourF_49]; omega
  · rw [hourF_49, hourF_50]; omega
  · obtain ⟨w1, w2⟩ := h7 c q1 q2
    obtain ⟨v1, v2, v3, v4, v5, v6, -⟩ := h2 c q1 q2
    have hp := pBy_r cd rd nC s (s (34 + c))
    rw [hourF_34 cd rd s hR hC.2 ⟨q1, q2⟩, hourF_39 cd rd s hR hC.2 ⟨q1, q2⟩]
    unfold gonF
    by_cases q : comes cd rd nC s c
    · rw [if_pos q, if_pos q]
      exact ⟨fun _ => rfl, fun z => absurd rfl z⟩
    · rw [if_neg q, if_neg q]
      by_cases q3 : ¬ s (34 + c) = -1 ∧ ¬ rst s (s (34 + c))
      · rw [if_pos q3]
        have : ¬ rd (4 * s (34 + c) + 2) ≤ s (39 + c) + pBy cd rd nC s (s (34 + c)) := fun z => q ⟨q3.1, q3.2, z⟩
        have := w2 q3.1
        exact ⟨fun z => absurd z q3.1, fun _ => by omega⟩
      · rw [if_neg q3]
        exact ⟨w1, w2⟩
theorem inv_drawC {rd : Int → Int} {nR nC : Int} {x : (Int → Int) × Int} (h : InvS rd nR nC x.1) (hrd : Rd nR rd) (hR : 0 < nR ∧ nR ≤ 12) (hC : nC ≤ 5) : InvS rd nR nC (drawC rd nR nC x).1 ∧ (drawC rd nR nC x).1 50 = x.1 50 := by
  unfold drawC
  by_cases p : 0 < nC
  · rw [if_pos p]
    show InvS rd nR nC (if canSet rd x.1 (drw (nxS x.2) % nC) (drw (nxS (nxS x.2)) % nR) then _ else _) ∧ (if canSet rd x.1 (drw (nxS x.2) % nC) (drw (nxS (nxS x.2)) % nR) then setF rd x.1 (drw (nxS x.2) % nC) (drw (nxS (nxS x.2)) % nR) else x.1) 50 = x.1 50
    have hr : 0 ≤ drw (nxS (nxS x.2)) % nR ∧ drw (nxS (nxS x.2)) % nR < nR := ⟨Int.emod_nonneg _ (by omega), Int.emod_lt_of_pos _ (by omega)⟩
    have hc : 0 ≤ drw (nxS x.2) % nC ∧ drw (nxS x.2) % nC < nC := ⟨Int.emod_nonneg _ (by omega), Int.emod_lt_of_pos _ (by omega)⟩
    by_cases q : canSet rd x.1 (drw (nxS x.2) % nC) (drw (nxS (nxS x.2)) % nR)
    · rw [if_pos q]
      exact ⟨inv_set h hrd hR.2 hC hc hr, setF_o _ _ (by omega)⟩
    · rw [if_neg q]
      exact ⟨h, rfl⟩
  · rw [if_neg p]
    exact ⟨h, rfl⟩
theorem inv_drawR {rd : Int → Int} {nR nC q : Int} {x : (Int → Int) × Int} (h : InvS rd nR nC x.1) (hR : 0 < nR ∧ nR ≤ 12) (hC : nC ≤ 5) : InvS rd nR nC (drawR nR q x).1 ∧ (drawR nR q x).1 50 = x.1 50 := by
  unfold drawR
  by_cases p : drw (nxS x.2) % 16 < q
  · rw [if_pos p]
    show InvS rd nR nC (if x.1 (drw (nxS (nxS x.2)) % nR) = drw (nxS (nxS (nxS x.2))) % 7 then _ else _) ∧ (if x.1 (drw (nxS (nxS x.2)) % nR) = drw (nxS (nxS (nxS x.2))) % 7 then x.1 else pu x.1 (drw (nxS (nxS x.2)) % nR) (drw (nxS (nxS (nxS x.2))) % 7)) 50 = x.1 50
    have hr : 0 ≤ drw (nxS (nxS x.2)) % nR ∧ drw (nxS (nxS x.2)) % nR < nR := ⟨Int.emod_nonneg _ (by omega), Int.emod_lt_of_pos _ (by omega)⟩
    by_cases q : x.1 (drw (nxS (nxS x.2)) % nR) = drw (nxS (nxS (nxS x.2))) % 7
    · rw [if_pos q]
      exact ⟨h, rfl⟩
    · rw [if_neg q]
      exact ⟨inv_off h hR.2 hC hr (by omega), pu_o _ (by omega)⟩
  · rw [if_neg p]
    exact ⟨h, rfl⟩
theorem inv_drawF {rd : Int → Int} {nR nC q : Int} {x : (Int → Int) × Int} (h : InvS rd nR nC x.1) (hrd : Rd nR rd) (hR : 0 ≤ nR ∧ nR ≤ 12) (hC : nC ≤ 5) : InvS rd nR nC (drawF rd nR nC q x).1 ∧ (drawF rd nR nC q x).1 50 = x.1 50 := by
  unfold drawF
  by_cases p : nR = 0
  · rw [if_pos p]
    exact ⟨h, rfl⟩
  · rw [if_neg p]
    obtain ⟨h1, h2⟩ := inv_drawC h hrd ⟨by omega, hR.2⟩ hC
    obtain ⟨h3, h4⟩ := inv_drawR (q := q) h1 ⟨by omega, hR.2⟩ hC
    exact ⟨h3, h4.trans h2⟩
/-- a year of n hours -/
def yrF (cd : List (Int × Int)) (rd : Int → Int) (nR nC q : Int) : Nat → (Int → Int) × Int → (Int → Int) × Int
  | 0, x => x
  | n + 1, x => (hourF cd rd nR nC (drawF rd nR nC q (yrF cd rd nR nC q n x)).1, (drawF rd nR nC q (yrF cd rd nR nC q n x)).2)
theorem inv_yr (cd : List (Int × Int)) {rd : Int → Int} {nR nC q : Int} {x : (Int → Int) × Int} (h : InvS rd nR nC x.1) (hrd : Rd nR rd) (hR : 0 ≤ nR ∧ nR ≤ 12) (hC : 0 ≤ nC ∧ nC ≤ 5) : ∀ n : Nat, x.1 50 + n ≤ 8000 → InvS rd nR nC (yrF cd rd nR nC q n x).1 ∧ (yrF cd rd nR nC q n x).1 50 = x.1 50 + n
  | 0, _ => ⟨h, by show x.1 50 = x.1 50 + 0; omega⟩
  | n + 1, hn => by
    obtain ⟨h1, h2⟩ := inv_yr cd h hrd hR hC (q := q) n (by omega)
    obtain ⟨h3, h4⟩ := inv_drawF (q := q) h1 hrd hR hC.2
    refine ⟨inv_hour cd h3 hrd hR.2 hC (by omega), ?_⟩
    show hourF cd rd nR nC (drawF rd nR nC q (yrF cd rd nR nC q n x)).1 50 = _
    rw [hourF_50, h4, h2]
    omega
